set_option maxRecDepth 20000 in
theorem lf_X8_27 : Cond.fieldLink RX8 27 "BarcodeWandModel" "saved" "I" ∈ wsA := mA 788 rfl rfl
set_option maxRecDepth 20000 in
theorem lk_X8_copies : Cond.code yX8_copies cX8_copies 4 none ∈ wsA := mA 850 rfl rfl
theorem ly_X8_copies : k_y yX8_copies 2 := ⟨by decide +kernel, by decide +kernel, by decide +kernel⟩
set_option maxRecDepth 20000 in
theorem lm_X8_copies : Cond.instanceMethod yX8_copies ∈ wsA := mA 849 rfl rfl
theorem le_X8_copies : Cond.selects (yX8_copies).cls yX8_copies yX8_copies ∈ wsA := mS 23 rfl rfl
set_option maxRecDepth 20000 in
theorem Lv_X8_30 : k_LV RX8 30 yX8_copies cX8_copies 4 none 2 := ⟨mA 847 rfl rfl, lm_X8_copies, le_X8_copies, li_BarcodeWandModel, lk_X8_copies, ly_X8_copies⟩
theorem dX8_copies_0 : decode cX8_copies 0 = .ok (.iconst 0, 1) := by decide +kernel
theorem dX8_copies_1 : decode cX8_copies 1 = .ok (.istore_n 3, 1) := by decide +kernel
theorem dX8_copies_2 : decode cX8_copies 2 = .ok (.iload_n 3, 1) := by decide +kernel
theorem dX8_copies_3 : decode cX8_copies 3 = .ok (.bipush 127, 2) := by decide +kernel
theorem dX8_copies_5 : decode cX8_copies 5 = .ok (.if_icmp .ge 31, 3) := by decide +kernel
theorem dX8_copies_8 : decode cX8_copies 8 = .ok (.aload_n 0, 1) := by decide +kernel
theorem dX8_copies_9 : decode cX8_copies 9 = .ok (.getfield 7, 3) := by decide +kernel
theorem dX8_copies_12 : decode cX8_copies 12 = .ok (.bipush 127, 2) := by decide +kernel
theorem dX8_copies_14 : decode cX8_copies 14 = .ok (.iload_n 2, 1) := by decide +kernel
theorem dX8_copies_15 : decode cX8_copies 15 = .ok (.imul, 1) := by decide +kernel
theorem dX8_copies_16 : decode cX8_copies 16 = .ok (.iload_n 3, 1) := by decide +kernel
theorem dX8_copies_17 : decode cX8_copies 17 = .ok (.iadd, 1) := by decide +kernel
theorem dX8_copies_18 : decode cX8_copies 18 = .ok (.aload_n 0, 1) := by decide +kernel
theorem dX8_copies_19 : decode cX8_copies 19 = .ok (.getfield 7, 3) := by decide +kernel
theorem dX8_copies_22 : decode cX8_copies 22 = .ok (.bipush 127, 2) := by decide +kernel
theorem dX8_copies_24 : decode cX8_copies 24 = .ok (.iload_n 1, 1) := by decide +kernel
theorem dX8_copies_25 : decode cX8_copies 25 = .ok (.imul, 1) := by decide +kernel
theorem dX8_copies_26 : decode cX8_copies 26 = .ok (.iload_n 3, 1) := by decide +kernel
theorem dX8_copies_27 : decode cX8_copies 27 = .ok (.iadd, 1) := by decide +kernel
theorem dX8_copies_28 : decode cX8_copies 28 = .ok (.iaload, 1) := by decide +kernel
theorem dX8_copies_29 : decode cX8_copies 29 = .ok (.iastore, 1) := by decide +kernel
theorem dX8_copies_30 : decode cX8_copies 30 = .ok (.iinc 3 1, 3) := by decide +kernel
theorem dX8_copies_33 : decode cX8_copies 33 = .ok (.goto (-31), 3) := by decide +kernel
theorem dX8_copies_36 : decode cX8_copies 36 = .ok (.return_, 1) := by decide +kernel
theorem dX8_saves_0 : decode cX8_saves 0 = .ok (.aload_n 0, 1) := by decide +kernel
theorem dX8_saves_1 : decode cX8_saves 1 = .ok (.getfield 27, 3) := by decide +kernel
theorem dX8_saves_4 : decode cX8_saves 4 = .ok (.bipush 6, 2) := by decide +kernel
theorem dX8_saves_6 : decode cX8_saves 6 = .ok (.if_icmp .ne 35, 3) := by decide +kernel
theorem dX8_saves_9 : decode cX8_saves 9 = .ok (.iconst 1, 1) := by decide +kernel
theorem dX8_saves_10 : decode cX8_saves 10 = .ok (.istore_n 1, 1) := by decide +kernel
theorem dX8_saves_11 : decode cX8_saves 11 = .ok (.iload_n 1, 1) := by decide +kernel
theorem dX8_saves_12 : decode cX8_saves 12 = .ok (.bipush 6, 2) := by decide +kernel
theorem dX8_saves_14 : decode cX8_saves 14 = .ok (.if_icmp .ge 17, 3) := by decide +kernel
theorem dX8_saves_17 : decode cX8_saves 17 = .ok (.aload_n 0, 1) := by decide +kernel
theorem dX8_saves_18 : decode cX8_saves 18 = .ok (.iload_n 1, 1) := by decide +kernel
theorem dX8_saves_19 : decode cX8_saves 19 = .ok (.iconst 1, 1) := by decide +kernel
theorem dX8_saves_20 : decode cX8_saves 20 = .ok (.iadd, 1) := by decide +kernel
theorem dX8_saves_21 : decode cX8_saves 21 = .ok (.iload_n 1, 1) := by decide +kernel
theorem dX8_saves_22 : decode cX8_saves 22 = .ok (.invokevirtual 30, 3) := by decide +kernel
theorem dX8_saves_25 : decode cX8_saves 25 = .ok (.iinc 1 1, 3) := by decide +kernel
theorem dX8_saves_28 : decode cX8_saves 28 = .ok (.goto (-17), 3) := by decide +kernel
theorem dX8_saves_31 : decode cX8_saves 31 = .ok (.aload_n 0, 1) := by decide +kernel
theorem dX8_saves_32 : decode cX8_saves 32 = .ok (.dup, 1) := by decide +kernel
theorem dX8_saves_33 : decode cX8_saves 33 = .ok (.getfield 27, 3) := by decide +kernel
theorem dX8_saves_36 : decode cX8_saves 36 = .ok (.iconst 1, 1) := by decide +kernel
theorem dX8_saves_37 : decode cX8_saves 37 = .ok (.isub, 1) := by decide +kernel
theorem dX8_saves_38 : decode cX8_saves 38 = .ok (.putfield 27, 3) := by decide +kernel
theorem dX8_saves_41 : decode cX8_saves 41 = .ok (.aload_n 0, 1) := by decide +kernel
theorem dX8_saves_42 : decode cX8_saves 42 = .ok (.dup, 1) := by decide +kernel
theorem dX8_saves_43 : decode cX8_saves 43 = .ok (.getfield 27, 3) := by decide +kernel
theorem dX8_saves_46 : decode cX8_saves 46 = .ok (.iconst 1, 1) := by decide +kernel
theorem dX8_saves_47 : decode cX8_saves 47 = .ok (.iadd, 1) := by decide +kernel
theorem dX8_saves_48 : decode cX8_saves 48 = .ok (.putfield 27, 3) := by decide +kernel
theorem dX8_saves_51 : decode cX8_saves 51 = .ok (.aload_n 0, 1) := by decide +kernel
theorem dX8_saves_52 : decode cX8_saves 52 = .ok (.iconst 0, 1) := by decide +kernel
theorem dX8_saves_53 : decode cX8_saves 53 = .ok (.aload_n 0, 1) := by decide +kernel
theorem dX8_saves_54 : decode cX8_saves 54 = .ok (.getfield 27, 3) := by decide +kernel
theorem dX8_saves_57 : decode cX8_saves 57 = .ok (.invokevirtual 30, 3) := by decide +kernel
theorem dX8_saves_60 : decode cX8_saves 60 = .ok (.return_, 1) := by decide +kernel
set_option maxHeartbeats 4000000 in
set_option maxRecDepth 100000 in
theorem c_M_copies_1 (l : Launch) (D : va_G) (mo : Nat) (ms : Nat) (sv : Int32) (mb : Nat) (ty : Int32) (th : Int32) (mk : Nat) (ml : Int32) (mfd : Nat) (mf : Int32) (sp : Int32) (on : Int32) (tw : Int32) (K : ClassId) (sf : Nat → Int32) (sz : Nat) : k_Mv (S := Unit) l D yX8_copies cX8_copies 4 none 0 0 0 0 [.ref mo, .int 2, .int 1] [(mo, .inr (8, [.ref ms, .int sv, .ref mb, .int ty, .int th, .ref mk, .int ml, .ref mfd, .int mf, .int sp, .int on, .int tw])), (ms, .inl (K, 889, .inl sf))] [(K, .int)] (fun (_ : Unit) => True) (fun _ => [(mo, .inr (8, [.ref ms, .int sv, .ref mb, .int ty, .int th, .ref mk, .int ml, .ref mfd, .int mf, .int sp, .int on, .int tw])), (ms, .inl (K, 889, .inl (cpB sf 2 1 127)))]) (fun _ => []) sz := by
  refine Met.ofW (cc := cX8_copies) (maxL := 4) (ret := none) (by decide) rfl ?_
  intro p e s m args below meth c s₁ B hml hv
  obtain ⟨rfl, hsz, hP, hK, hD0, hG⟩ := hv
  have hx := B.exec
  have hb := B.bytes
  have hr := B.returns
  have ht : ∀ v9 ∈ wsA, v9.before ([.ref mo, .int 2, .int 1] : List Value).toArray s = true := fun v9 h9 => atoms_spec (ws := k_ws yX8_copies cX8_copies 4 none) B.pre v9 (List.mem_cons_of_mem _ h9)
  have hown : s.vm.findClass RX8 = some m.cls := findClass_of_methodNamed B.named
  have S0 : k_C p s m ([.ref mo, .int 2, .int 1] : List Value).toArray c cX8_copies 4 RX8 := ⟨hx, hb, hml, hown, ht⟩
  have hlocks := B.notSynchronized
  subst hsz
  have hD := hD0.self (sz := s.heap.size)
  generalize hAe : va_A [(mo, .inr (8, [.ref ms, .int sv, .ref mb, .int ty, .int th, .ref mk, .int ml, .ref mfd, .int mf, .int sp, .int on, .int tw])), (ms, .inl (K, 889, .inl sf))] s.heap.size = A at hD hG ⊢
  have hA : ∀ q : Nat, s.heap.size ≤ q → A q := fun q h => by rw [← hAe]; exact Or.inr h
  have hS : va_S A s.heap s.heap [] := va_S.rf
  have hl := lv_entry ([.ref mo, .int 2, .int 1]) (n := 4) (Nat.le_of_ble_eq_true rfl)
  rw [lg_entry_eq]
  generalize (lg_sl ([.ref mo, .int 2, .int 1]) ++ List.replicate (4 - (lg_sl ([.ref mo, .int 2, .int 1])).length) Slot.unset).toArray = ls at hl ⊢
  have hl : lv_has ls 4 [(0, .ref mo), (1, .int 2), (2, .int 1)] := hl
  have hP : va_P D vwCl [(mo, .inr (8, [.ref ms, .int sv, .ref mb, .int ty, .int th, .ref mk, .int ml, .ref mfd, .int mf, .int sp, .int on, .int tw])), (ms, .inl (K, 889, .inl sf))] s.heap := hP
  refine lv_iconst (v := 0) hx hb dX8_copies_0 (by decide) ?_
  refine lv_istore_n (lv' := [(3, .int 0), (0, .ref mo), (1, .int 2), (2, .int 1)]) hx hb dX8_copies_1 rfl hl (by decide) rfl (fun ls hl => ?_)
  have hf_1 : (sf : Nat → Int32) = (cpB sf 2 1 0) := (cpB_0 sf _ _).symm
  have hP : va_P D vwCl [(mo, .inr (8, [.ref ms, .int sv, .ref mb, .int ty, .int th, .ref mk, .int ml, .ref mfd, .int mf, .int sp, .int on, .int tw])), (ms, .inl (K, 889, .inl (cpB sf 2 1 0)))] s.heap := (congrArg (fun z9 : Nat → Int32 => va_P D vwCl [(mo, .inr (8, [.ref ms, .int sv, .ref mb, .int ty, .int th, .ref mk, .int ml, .ref mfd, .int mf, .int sp, .int on, .int tw])), (ms, .inl (K, 889, .inl z9))] s.heap) hf_1).mp hP
  have hD : va_D A [(mo, .inr (8, [.ref ms, .int sv, .ref mb, .int ty, .int th, .ref mk, .int ml, .ref mfd, .int mf, .int sp, .int on, .int tw])), (ms, .inl (K, 889, .inl (cpB sf 2 1 0)))] := (congrArg (fun z9 : Nat → Int32 => va_D A [(mo, .inr (8, [.ref ms, .int sv, .ref mb, .int ty, .int th, .ref mk, .int ml, .ref mfd, .int mf, .int sp, .int on, .int tw])), (ms, .inl (K, 889, .inl z9))]) hf_1).mp hD
  have hl : lv_has ls 4 [(3, .int (nI 0)), (0, .ref mo), (1, .int 2), (2, .int 1)] := hl
  refine k_loop (ι := Nat) (fun (i : Nat) H9 locs9 ls9 => (i ≤ 127) ∧ va_P D vwCl [(mo, .inr (8, [.ref ms, .int sv, .ref mb, .int ty, .int th, .ref mk, .int ml, .ref mfd, .int mf, .int sp, .int on, .int tw])), (ms, .inl (K, 889, .inl (cpB sf 2 1 i)))] H9 ∧ va_D A [(mo, .inr (8, [.ref ms, .int sv, .ref mb, .int ty, .int th, .ref mk, .int ml, .ref mfd, .int mf, .int sp, .int on, .int tw])), (ms, .inl (K, 889, .inl (cpB sf 2 1 i)))] ∧ va_S A s.heap H9 locs9 ∧ lv_has ls9 4 [(3, .int (nI i)), (0, .ref mo), (1, .int 2), (2, .int 1)]) (fun (i : Nat) => 127 - i) ?_ (0) ⟨(Nat.zero_le _), hP.sub [0, 1] rfl, hD.sub [0, 1] (by decide) rfl, hS, lv_sub hl [0, 1, 2, 3] rfl⟩
  intro x9 H locs ls hF9 ih9
  obtain ⟨i, hv9⟩ : ∃ z, z = x9 := ⟨_, rfl⟩
  subst hv9
  obtain ⟨hi, hP, hD, hS, hl⟩ := hF9
  try dsimp only at ih9
  have hP : va_P D vwCl [(mo, .inr (8, [.ref ms, .int sv, .ref mb, .int ty, .int th, .ref mk, .int ml, .ref mfd, .int mf, .int sp, .int on, .int tw])), (ms, .inl (K, 889, .inl (cpB sf 2 1 i)))] H := hP
  have hD : va_D A [(mo, .inr (8, [.ref ms, .int sv, .ref mb, .int ty, .int th, .ref mk, .int ml, .ref mfd, .int mf, .int sp, .int on, .int tw])), (ms, .inl (K, 889, .inl (cpB sf 2 1 i)))] := hD
  have hl : lv_has ls 4 [(3, .int (nI i)), (0, .ref mo), (1, .int 2), (2, .int 1)] := hl
  refine lv_iload_n hx hb dX8_copies_2 rfl (lv_at hl 0 rfl) ?_
  refine lv_bipush (v := 127) hx hb dX8_copies_3 (by decide) ?_
  refine lv_icmp_ge (tgt := 36) hx hb dX8_copies_5 (by decide) (fun c_2 => ?_) (fun c_2 => ?_)
  · have hc9 := c_2
    obtain rfl : 127 = i := by rcases Nat.lt_or_ge i 127 with q9 | q9; exact absurd c_2 (nI_ge (b := 127) q9 (by omega)); omega
    have hP9 : va_P D vwCl [(mo, .inr (8, [.ref ms, .int sv, .ref mb, .int ty, .int th, .ref mk, .int ml, .ref mfd, .int mf, .int sp, .int on, .int tw])), (ms, .inl (K, 889, .inl (cpB sf 2 1 127)))] H := hP.sub [0, 1] rfl
    have hD9 : va_D A [(mo, .inr (8, [.ref ms, .int sv, .ref mb, .int ty, .int th, .ref mk, .int ml, .ref mfd, .int mf, .int sp, .int on, .int tw])), (ms, .inl (K, 889, .inl (cpB sf 2 1 127)))] := hD.sub [0, 1] (by decide) rfl
    have hK9 : va_K D vwCl [] s := hK.sub [] rfl
    exact W.vret hx hb hr (fun t ht9 hW9 => ⟨⟨(), rfl, by first | rfl | trivial | (simp only [hi, c_2, if_true, if_false, reduceIte, and_self]; done) | simp_all, ⟨by rw [ht9]; exact hP9, va_K.moved hW9.alike hK9, hD9⟩⟩, hS.F ht9⟩) hS.2.2 dX8_copies_36
  · have hc9 := c_2
    have hik : i + 1 ≤ 127 := by rcases Nat.lt_or_ge i 127 with q9 | q9; exact q9; exact absurd (nI_le (a := 127) q9 (by omega)) c_2
    refine lv_aload_n hx hb dX8_copies_8 rfl (lv_at hl 1 rfl) ?_
    refine va_get (D := D) (ci := 8) (v := .ref ms) (C := RX8) (T := TX8) (N := 12) hx hb ht inA_X8 hown hK hP 0 rfl rfl 0 (by decide) (ht _ lf_X8_7) (fun _ h9 => h9) rfl dX8_copies_9 ?_
    refine lv_bipush (v := 127) hx hb dX8_copies_12 (by decide) ?_
    refine lv_iload_n hx hb dX8_copies_14 rfl (lv_at hl 3 rfl) ?_
    refine lv_imul hx hb dX8_copies_15 ?_
    refine k_nrm (y := 127) (by decide) ?_
    refine lv_iload_n hx hb dX8_copies_16 rfl (lv_at hl 0 rfl) ?_
    refine lv_iadd hx hb dX8_copies_17 ?_
    refine k_nrm (y := (nI (127 * 1 + i))) (nI_add (127 * 1) i) ?_
    refine lv_aload_n hx hb dX8_copies_18 rfl (lv_at hl 1 rfl) ?_
    refine va_get (D := D) (ci := 8) (v := .ref ms) (C := RX8) (T := TX8) (N := 12) hx hb ht inA_X8 hown hK hP 0 rfl rfl 0 (by decide) (ht _ lf_X8_7) (fun _ h9 => h9) rfl dX8_copies_19 ?_
    refine lv_bipush (v := 127) hx hb dX8_copies_22 (by decide) ?_
    refine lv_iload_n hx hb dX8_copies_24 rfl (lv_at hl 2 rfl) ?_
    refine lv_imul hx hb dX8_copies_25 ?_
    refine k_nrm (y := 254) (by decide) ?_
    refine lv_iload_n hx hb dX8_copies_26 rfl (lv_at hl 0 rfl) ?_
    refine lv_iadd hx hb dX8_copies_27 ?_
    refine k_nrm (y := (nI (127 * 2 + i))) (nI_add (127 * 2) i) ?_
    refine va_iald hx hb hK hP 1 0 rfl rfl (vp_in_nI (by omega) (by decide)) dX8_copies_28 ?_
    refine k_nrm (y := (sf (127 * 2 + i))) (by rw [nI_clamp (by omega)]; exact cpB_rd (by omega)) ?_
    refine va_iast hx hb hK hP hD hS 1 0 rfl rfl (vp_in_nI (by omega) (by decide)) dX8_copies_29 (fun H locs hP hD hS => ?_)
    have hP : va_P D vwCl [(mo, .inr (8, [.ref ms, .int sv, .ref mb, .int ty, .int th, .ref mk, .int ml, .ref mfd, .int mf, .int sp, .int on, .int tw])), (ms, .inl (K, 889, .inl (upd (cpB sf 2 1 i) ((nI (127 * 1 + i)).toNatClampNeg) (sf (127 * 2 + i)))))] H := hP
    have hD : va_D A [(mo, .inr (8, [.ref ms, .int sv, .ref mb, .int ty, .int th, .ref mk, .int ml, .ref mfd, .int mf, .int sp, .int on, .int tw])), (ms, .inl (K, 889, .inl (upd (cpB sf 2 1 i) ((nI (127 * 1 + i)).toNatClampNeg) (sf (127 * 2 + i)))))] := hD
    have hf9 : upd (cpB sf 2 1 i) ((nI (127 * 1 + i)).toNatClampNeg) (sf (127 * 2 + i)) = (cpB sf 2 1 (i + 1)) := by rw [nI_clamp (by omega)]; exact cpB_s (by omega)
    rw [hf9] at hP hD
    have hP : va_P D vwCl [(mo, .inr (8, [.ref ms, .int sv, .ref mb, .int ty, .int th, .ref mk, .int ml, .ref mfd, .int mf, .int sp, .int on, .int tw])), (ms, .inl (K, 889, .inl (cpB sf 2 1 (i + 1))))] H := hP
    have hD : va_D A [(mo, .inr (8, [.ref ms, .int sv, .ref mb, .int ty, .int th, .ref mk, .int ml, .ref mfd, .int mf, .int sp, .int on, .int tw])), (ms, .inl (K, 889, .inl (cpB sf 2 1 (i + 1))))] := hD
    obtain ⟨x_3, ex_3⟩ : ∃ z : Int32, z = (nI i) + 1 := ⟨_, rfl⟩
    refine lv_iinc (v := x_3) (lv' := [(3, .int x_3), (0, .ref mo), (1, .int 2), (2, .int 1)]) hx hb dX8_copies_30 hl (k := 0) rfl (by rw [ex_3]; rfl) (by decide) rfl (fun ls hl => ?_)
    refine lv_goto (tgt := 2) hx hb dX8_copies_33 (by decide) ?_
    have he9 : x_3 = (nI (i + 1)) := by rw [ex_3]; exact nI_1 i
    rw [he9] at hl
    have hl : lv_has ls 4 [(3, .int (nI (i + 1))), (0, .ref mo), (1, .int 2), (2, .int 1)] := hl
    exact ih9 (i + 1) H locs ls (by omega) ⟨hik, hP.sub [0, 1] rfl, hD.sub [0, 1] (by decide) rfl, hS, lv_sub hl [0, 1, 2, 3] rfl⟩
set_option maxHeartbeats 4000000 in
set_option maxRecDepth 100000 in
theorem c_M_copies_2 (l : Launch) (D : va_G) (mo : Nat) (ms : Nat) (sv : Int32) (mb : Nat) (ty : Int32) (th : Int32) (mk : Nat) (ml : Int32) (mfd : Nat) (mf : Int32) (sp : Int32) (on : Int32) (tw : Int32) (K : ClassId) (sf : Nat → Int32) (sz : Nat) : k_Mv (S := Unit) l D yX8_copies cX8_copies 4 none 0 0 0 0 [.ref mo, .int 3, .int 2] [(mo, .inr (8, [.ref ms, .int sv, .ref mb, .int ty, .int th, .ref mk, .int ml, .ref mfd, .int mf, .int sp, .int on, .int tw])), (ms, .inl (K, 889, .inl sf))] [(K, .int)] (fun (_ : Unit) => True) (fun _ => [(mo, .inr (8, [.ref ms, .int sv, .ref mb, .int ty, .int th, .ref mk, .int ml, .ref mfd, .int mf, .int sp, .int on, .int tw])), (ms, .inl (K, 889, .inl (cpB sf 3 2 127)))]) (fun _ => []) sz := by
  refine Met.ofW (cc := cX8_copies) (maxL := 4) (ret := none) (by decide) rfl ?_
  intro p e s m args below meth c s₁ B hml hv
  obtain ⟨rfl, hsz, hP, hK, hD0, hG⟩ := hv
  have hx := B.exec
  have hb := B.bytes
  have hr := B.returns
  have ht : ∀ v9 ∈ wsA, v9.before ([.ref mo, .int 3, .int 2] : List Value).toArray s = true := fun v9 h9 => atoms_spec (ws := k_ws yX8_copies cX8_copies 4 none) B.pre v9 (List.mem_cons_of_mem _ h9)
  have hown : s.vm.findClass RX8 = some m.cls := findClass_of_methodNamed B.named
  have S0 : k_C p s m ([.ref mo, .int 3, .int 2] : List Value).toArray c cX8_copies 4 RX8 := ⟨hx, hb, hml, hown, ht⟩
  have hlocks := B.notSynchronized
  subst hsz
  have hD := hD0.self (sz := s.heap.size)
  generalize hAe : va_A [(mo, .inr (8, [.ref ms, .int sv, .ref mb, .int ty, .int th, .ref mk, .int ml, .ref mfd, .int mf, .int sp, .int on, .int tw])), (ms, .inl (K, 889, .inl sf))] s.heap.size = A at hD hG ⊢
  have hA : ∀ q : Nat, s.heap.size ≤ q → A q := fun q h => by rw [← hAe]; exact Or.inr h
  have hS : va_S A s.heap s.heap [] := va_S.rf
  have hl := lv_entry ([.ref mo, .int 3, .int 2]) (n := 4) (Nat.le_of_ble_eq_true rfl)
  rw [lg_entry_eq]
  generalize (lg_sl ([.ref mo, .int 3, .int 2]) ++ List.replicate (4 - (lg_sl ([.ref mo, .int 3, .int 2])).length) Slot.unset).toArray = ls at hl ⊢
  have hl : lv_has ls 4 [(0, .ref mo), (1, .int 3), (2, .int 2)] := hl
  have hP : va_P D vwCl [(mo, .inr (8, [.ref ms, .int sv, .ref mb, .int ty, .int th, .ref mk, .int ml, .ref mfd, .int mf, .int sp, .int on, .int tw])), (ms, .inl (K, 889, .inl sf))] s.heap := hP
  refine lv_iconst (v := 0) hx hb dX8_copies_0 (by decide) ?_
  refine lv_istore_n (lv' := [(3, .int 0), (0, .ref mo), (1, .int 3), (2, .int 2)]) hx hb dX8_copies_1 rfl hl (by decide) rfl (fun ls hl => ?_)
  have hf_1 : (sf : Nat → Int32) = (cpB sf 3 2 0) := (cpB_0 sf _ _).symm
  have hP : va_P D vwCl [(mo, .inr (8, [.ref ms, .int sv, .ref mb, .int ty, .int th, .ref mk, .int ml, .ref mfd, .int mf, .int sp, .int on, .int tw])), (ms, .inl (K, 889, .inl (cpB sf 3 2 0)))] s.heap := (congrArg (fun z9 : Nat → Int32 => va_P D vwCl [(mo, .inr (8, [.ref ms, .int sv, .ref mb, .int ty, .int th, .ref mk, .int ml, .ref mfd, .int mf, .int sp, .int on, .int tw])), (ms, .inl (K, 889, .inl z9))] s.heap) hf_1).mp hP
  have hD : va_D A [(mo, .inr (8, [.ref ms, .int sv, .ref mb, .int ty, .int th, .ref mk, .int ml, .ref mfd, .int mf, .int sp, .int on, .int tw])), (ms, .inl (K, 889, .inl (cpB sf 3 2 0)))] := (congrArg (fun z9 : Nat → Int32 => va_D A [(mo, .inr (8, [.ref ms, .int sv, .ref mb, .int ty, .int th, .ref mk, .int ml, .ref mfd, .int mf, .int sp, .int on, .int tw])), (ms, .inl (K, 889, .inl z9))]) hf_1).mp hD
  have hl : lv_has ls 4 [(3, .int (nI 0)), (0, .ref mo), (1, .int 3), (2, .int 2)] := hl
  refine k_loop (ι := Nat) (fun (i : Nat) H9 locs9 ls9 => (i ≤ 127) ∧ va_P D vwCl [(mo, .inr (8, [.ref ms, .int sv, .ref mb, .int ty, .int th, .ref mk, .int ml, .ref mfd, .int mf, .int sp, .int on, .int tw])), (ms, .inl (K, 889, .inl (cpB sf 3 2 i)))] H9 ∧ va_D A [(mo, .inr (8, [.ref ms, .int sv, .ref mb, .int ty, .int th, .ref mk, .int ml, .ref mfd, .int mf, .int sp, .int on, .int tw])), (ms, .inl (K, 889, .inl (cpB sf 3 2 i)))] ∧ va_S A s.heap H9 locs9 ∧ lv_has ls9 4 [(3, .int (nI i)), (0, .ref mo), (1, .int 3), (2, .int 2)]) (fun (i : Nat) => 127 - i) ?_ (0) ⟨(Nat.zero_le _), hP.sub [0, 1] rfl, hD.sub [0, 1] (by decide) rfl, hS, lv_sub hl [0, 1, 2, 3] rfl⟩
  intro x9 H locs ls hF9 ih9
  obtain ⟨i, hv9⟩ : ∃ z, z = x9 := ⟨_, rfl⟩
  subst hv9
  obtain ⟨hi, hP, hD, hS, hl⟩ := hF9
  try dsimp only at ih9
  have hP : va_P D vwCl [(mo, .inr (8, [.ref ms, .int sv, .ref mb, .int ty, .int th, .ref mk, .int ml, .ref mfd, .int mf, .int sp, .int on, .int tw])), (ms, .inl (K, 889, .inl (cpB sf 3 2 i)))] H := hP
  have hD : va_D A [(mo, .inr (8, [.ref ms, .int sv, .ref mb, .int ty, .int th, .ref mk, .int ml, .ref mfd, .int mf, .int sp, .int on, .int tw])), (ms, .inl (K, 889, .inl (cpB sf 3 2 i)))] := hD
  have hl : lv_has ls 4 [(3, .int (nI i)), (0, .ref mo), (1, .int 3), (2, .int 2)] := hl
  refine lv_iload_n hx hb dX8_copies_2 rfl (lv_at hl 0 rfl) ?_
  refine lv_bipush (v := 127) hx hb dX8_copies_3 (by decide) ?_
  refine lv_icmp_ge (tgt := 36) hx hb dX8_copies_5 (by decide) (fun c_2 => ?_) (fun c_2 => ?_)
  · have hc9 := c_2
    obtain rfl : 127 = i := by rcases Nat.lt_or_ge i 127 with q9 | q9; exact absurd c_2 (nI_ge (b := 127) q9 (by omega)); omega
    have hP9 : va_P D vwCl [(mo, .inr (8, [.ref ms, .int sv, .ref mb, .int ty, .int th, .ref mk, .int ml, .ref mfd, .int mf, .int sp, .int on, .int tw])), (ms, .inl (K, 889, .inl (cpB sf 3 2 127)))] H := hP.sub [0, 1] rfl
    have hD9 : va_D A [(mo, .inr (8, [.ref ms, .int sv, .ref mb, .int ty, .int th, .ref mk, .int ml, .ref mfd, .int mf, .int sp, .int on, .int tw])), (ms, .inl (K, 889, .inl (cpB sf 3 2 127)))] := hD.sub [0, 1] (by decide) rfl
    have hK9 : va_K D vwCl [] s := hK.sub [] rfl
    exact W.vret hx hb hr (fun t ht9 hW9 => ⟨⟨(), rfl, by first | rfl | trivial | (simp only [hi, c_2, if_true, if_false, reduceIte, and_self]; done) | simp_all, ⟨by rw [ht9]; exact hP9, va_K.moved hW9.alike hK9, hD9⟩⟩, hS.F ht9⟩) hS.2.2 dX8_copies_36
  · have hc9 := c_2
    have hik : i + 1 ≤ 127 := by rcases Nat.lt_or_ge i 127 with q9 | q9; exact q9; exact absurd (nI_le (a := 127) q9 (by omega)) c_2
    refine lv_aload_n hx hb dX8_copies_8 rfl (lv_at hl 1 rfl) ?_
    refine va_get (D := D) (ci := 8) (v := .ref ms) (C := RX8) (T := TX8) (N := 12) hx hb ht inA_X8 hown hK hP 0 rfl rfl 0 (by decide) (ht _ lf_X8_7) (fun _ h9 => h9) rfl dX8_copies_9 ?_
    refine lv_bipush (v := 127) hx hb dX8_copies_12 (by decide) ?_
    refine lv_iload_n hx hb dX8_copies_14 rfl (lv_at hl 3 rfl) ?_
    refine lv_imul hx hb dX8_copies_15 ?_
    refine k_nrm (y := 254) (by decide) ?_
    refine lv_iload_n hx hb dX8_copies_16 rfl (lv_at hl 0 rfl) ?_
    refine lv_iadd hx hb dX8_copies_17 ?_
    refine k_nrm (y := (nI (127 * 2 + i))) (nI_add (127 * 2) i) ?_
    refine lv_aload_n hx hb dX8_copies_18 rfl (lv_at hl 1 rfl) ?_
    refine va_get (D := D) (ci := 8) (v := .ref ms) (C := RX8) (T := TX8) (N := 12) hx hb ht inA_X8 hown hK hP 0 rfl rfl 0 (by decide) (ht _ lf_X8_7) (fun _ h9 => h9) rfl dX8_copies_19 ?_
    refine lv_bipush (v := 127) hx hb dX8_copies_22 (by decide) ?_
    refine lv_iload_n hx hb dX8_copies_24 rfl (lv_at hl 2 rfl) ?_
    refine lv_imul hx hb dX8_copies_25 ?_
    refine k_nrm (y := 381) (by decide) ?_
    refine lv_iload_n hx hb dX8_copies_26 rfl (lv_at hl 0 rfl) ?_
    refine lv_iadd hx hb dX8_copies_27 ?_
    refine k_nrm (y := (nI (127 * 3 + i))) (nI_add (127 * 3) i) ?_
    refine va_iald hx hb hK hP 1 0 rfl rfl (vp_in_nI (by omega) (by decide)) dX8_copies_28 ?_
    refine k_nrm (y := (sf (127 * 3 + i))) (by rw [nI_clamp (by omega)]; exact cpB_rd (by omega)) ?_
    refine va_iast hx hb hK hP hD hS 1 0 rfl rfl (vp_in_nI (by omega) (by decide)) dX8_copies_29 (fun H locs hP hD hS => ?_)
    have hP : va_P D vwCl [(mo, .inr (8, [.ref ms, .int sv, .ref mb, .int ty, .int th, .ref mk, .int ml, .ref mfd, .int mf, .int sp, .int on, .int tw])), (ms, .inl (K, 889, .inl (upd (cpB sf 3 2 i) ((nI (127 * 2 + i)).toNatClampNeg) (sf (127 * 3 + i)))))] H := hP
    have hD : va_D A [(mo, .inr (8, [.ref ms, .int sv, .ref mb, .int ty, .int th, .ref mk, .int ml, .ref mfd, .int mf, .int sp, .int on, .int tw])), (ms, .inl (K, 889, .inl (upd (cpB sf 3 2 i) ((nI (127 * 2 + i)).toNatClampNeg) (sf (127 * 3 + i)))))] := hD
    have hf9 : upd (cpB sf 3 2 i) ((nI (127 * 2 + i)).toNatClampNeg) (sf (127 * 3 + i)) = (cpB sf 3 2 (i + 1)) := by rw [nI_clamp (by omega)]; exact cpB_s (by omega)
    rw [hf9] at hP hD
    have hP : va_P D vwCl [(mo, .inr (8, [.ref ms, .int sv, .ref mb, .int ty, .int th, .ref mk, .int ml, .ref mfd, .int mf, .int sp, .int on, .int tw])), (ms, .inl (K, 889, .inl (cpB sf 3 2 (i + 1))))] H := hP
    have hD : va_D A [(mo, .inr (8, [.ref ms, .int sv, .ref mb, .int ty, .int th, .ref mk, .int ml, .ref mfd, .int mf, .int sp, .int on, .int tw])), (ms, .inl (K, 889, .inl (cpB sf 3 2 (i + 1))))] := hD
    obtain ⟨x_3, ex_3⟩ : ∃ z : Int32, z = (nI i) + 1 := ⟨_, rfl⟩
    refine lv_iinc (v := x_3) (lv' := [(3, .int x_3), (0, .ref mo), (1, .int 3), (2, .int 2)]) hx hb dX8_copies_30 hl (k := 0) rfl (by rw [ex_3]; rfl) (by decide) rfl (fun ls hl => ?_)
    refine lv_goto (tgt := 2) hx hb dX8_copies_33 (by decide) ?_
    have he9 : x_3 = (nI (i + 1)) := by rw [ex_3]; exact nI_1 i
    rw [he9] at hl
    have hl : lv_has ls 4 [(3, .int (nI (i + 1))), (0, .ref mo), (1, .int 3), (2, .int 2)] := hl
    exact ih9 (i + 1) H locs ls (by omega) ⟨hik, hP.sub [0, 1] rfl, hD.sub [0, 1] (by decide) rfl, hS, lv_sub hl [0, 1, 2, 3] rfl⟩
set_option maxHeartbeats 4000000 in
set_option maxRecDepth 100000 in
theorem c_M_copies_3 (l : Launch) (D : va_G) (mo : Nat) (ms : Nat) (sv : Int32) (mb : Nat) (ty : Int32) (th : Int32) (mk : Nat) (ml : Int32) (mfd : Nat) (mf : Int32) (sp : Int32) (on : Int32) (tw : Int32) (K : ClassId) (sf : Nat → Int32) (sz : Nat) : k_Mv (S := Unit) l D yX8_copies cX8_copies 4 none 0 0 0 0 [.ref mo, .int 4, .int 3] [(mo, .inr (8, [.ref ms, .int sv, .ref mb, .int ty, .int th, .ref mk, .int ml, .ref mfd, .int mf, .int sp, .int on, .int tw])), (ms, .inl (K, 889, .inl sf))] [(K, .int)] (fun (_ : Unit) => True) (fun _ => [(mo, .inr (8, [.ref ms, .int sv, .ref mb, .int ty, .int th, .ref mk, .int ml, .ref mfd, .int mf, .int sp, .int on, .int tw])), (ms, .inl (K, 889, .inl (cpB sf 4 3 127)))]) (fun _ => []) sz := by
  refine Met.ofW (cc := cX8_copies) (maxL := 4) (ret := none) (by decide) rfl ?_
  intro p e s m args below meth c s₁ B hml hv
  obtain ⟨rfl, hsz, hP, hK, hD0, hG⟩ := hv
  have hx := B.exec
  have hb := B.bytes
  have hr := B.returns
  have ht : ∀ v9 ∈ wsA, v9.before ([.ref mo, .int 4, .int 3] : List Value).toArray s = true := fun v9 h9 => atoms_spec (ws := k_ws yX8_copies cX8_copies 4 none) B.pre v9 (List.mem_cons_of_mem _ h9)
  have hown : s.vm.findClass RX8 = some m.cls := findClass_of_methodNamed B.named
  have S0 : k_C p s m ([.ref mo, .int 4, .int 3] : List Value).toArray c cX8_copies 4 RX8 := ⟨hx, hb, hml, hown, ht⟩
  have hlocks := B.notSynchronized
  subst hsz
  have hD := hD0.self (sz := s.heap.size)
  generalize hAe : va_A [(mo, .inr (8, [.ref ms, .int sv, .ref mb, .int ty, .int th, .ref mk, .int ml, .ref mfd, .int mf, .int sp, .int on, .int tw])), (ms, .inl (K, 889, .inl sf))] s.heap.size = A at hD hG ⊢
  have hA : ∀ q : Nat, s.heap.size ≤ q → A q := fun q h => by rw [← hAe]; exact Or.inr h
  have hS : va_S A s.heap s.heap [] := va_S.rf
  have hl := lv_entry ([.ref mo, .int 4, .int 3]) (n := 4) (Nat.le_of_ble_eq_true rfl)
  rw [lg_entry_eq]
  generalize (lg_sl ([.ref mo, .int 4, .int 3]) ++ List.replicate (4 - (lg_sl ([.ref mo, .int 4, .int 3])).length) Slot.unset).toArray = ls at hl ⊢
  have hl : lv_has ls 4 [(0, .ref mo), (1, .int 4), (2, .int 3)] := hl
  have hP : va_P D vwCl [(mo, .inr (8, [.ref ms, .int sv, .ref mb, .int ty, .int th, .ref mk, .int ml, .ref mfd, .int mf, .int sp, .int on, .int tw])), (ms, .inl (K, 889, .inl sf))] s.heap := hP
  refine lv_iconst (v := 0) hx hb dX8_copies_0 (by decide) ?_
  refine lv_istore_n (lv' := [(3, .int 0), (0, .ref mo), (1, .int 4), (2, .int 3)]) hx hb dX8_copies_1 rfl hl (by decide) rfl (fun ls hl => ?_)
  have hf_1 : (sf : Nat → Int32) = (cpB sf 4 3 0) := (cpB_0 sf _ _).symm
  have hP : va_P D vwCl [(mo, .inr (8, [.ref ms, .int sv, .ref mb, .int ty, .int th, .ref mk, .int ml, .ref mfd, .int mf, .int sp, .int on, .int tw])), (ms, .inl (K, 889, .inl (cpB sf 4 3 0)))] s.heap := (congrArg (fun z9 : Nat → Int32 => va_P D vwCl [(mo, .inr (8, [.ref ms, .int sv, .ref mb, .int ty, .int th, .ref mk, .int ml, .ref mfd, .int mf, .int sp, .int on, .int tw])), (ms, .inl (K, 889, .inl z9))] s.heap) hf_1).mp hP
  have hD : va_D A [(mo, .inr (8, [.ref ms, .int sv, .ref mb, .int ty, .int th, .ref mk, .int ml, .ref mfd, .int mf, .int sp, .int on, .int tw])), (ms, .inl (K, 889, .inl (cpB sf 4 3 0)))] := (congrArg (fun z9 : Nat → Int32 => va_D A [(mo, .inr (8, [.ref ms, .int sv, .ref mb, .int ty, .int th, .ref mk, .int ml, .ref mfd, .int mf, .int sp, .int on, .int tw])), (ms, .inl (K, 889, .inl z9))]) hf_1).mp hD
  have hl : lv_has ls 4 [(3, .int (nI 0)), (0, .ref mo), (1, .int 4), (2, .int 3)] := hl
  refine k_loop (ι := Nat) (fun (i : Nat) H9 locs9 ls9 => (i ≤ 127) ∧ va_P D vwCl [(mo, .inr (8, [.ref ms, .int sv, .ref mb, .int ty, .int th, .ref mk, .int ml, .ref mfd, .int mf, .int sp, .int on, .int tw])), (ms, .inl (K, 889, .inl (cpB sf 4 3 i)))] H9 ∧ va_D A [(mo, .inr (8, [.ref ms, .int sv, .ref mb, .int ty, .int th, .ref mk, .int ml, .ref mfd, .int mf, .int sp, .int on, .int tw])), (ms, .inl (K, 889, .inl (cpB sf 4 3 i)))] ∧ va_S A s.heap H9 locs9 ∧ lv_has ls9 4 [(3, .int (nI i)), (0, .ref mo), (1, .int 4), (2, .int 3)]) (fun (i : Nat) => 127 - i) ?_ (0) ⟨(Nat.zero_le _), hP.sub [0, 1] rfl, hD.sub [0, 1] (by decide) rfl, hS, lv_sub hl [0, 1, 2, 3] rfl⟩
  intro x9 H locs ls hF9 ih9
  obtain ⟨i, hv9⟩ : ∃ z, z = x9 := ⟨_, rfl⟩
  subst hv9
  obtain ⟨hi, hP, hD, hS, hl⟩ := hF9
  try dsimp only at ih9
  have hP : va_P D vwCl [(mo, .inr (8, [.ref ms, .int sv, .ref mb, .int ty, .int th, .ref mk, .int ml, .ref mfd, .int mf, .int sp, .int on, .int tw])), (ms, .inl (K, 889, .inl (cpB sf 4 3 i)))] H := hP
  have hD : va_D A [(mo, .inr (8, [.ref ms, .int sv, .ref mb, .int ty, .int th, .ref mk, .int ml, .ref mfd, .int mf, .int sp, .int on, .int tw])), (ms, .inl (K, 889, .inl (cpB sf 4 3 i)))] := hD
  have hl : lv_has ls 4 [(3, .int (nI i)), (0, .ref mo), (1, .int 4), (2, .int 3)] := hl
  refine lv_iload_n hx hb dX8_copies_2 rfl (lv_at hl 0 rfl) ?_
  refine lv_bipush (v := 127) hx hb dX8_copies_3 (by decide) ?_
  refine lv_icmp_ge (tgt := 36) hx hb dX8_copies_5 (by decide) (fun c_2 => ?_) (fun c_2 => ?_)
  · have hc9 := c_2
    obtain rfl : 127 = i := by rcases Nat.lt_or_ge i 127 with q9 | q9; exact absurd c_2 (nI_ge (b := 127) q9 (by omega)); omega
    have hP9 : va_P D vwCl [(mo, .inr (8, [.ref ms, .int sv, .ref mb, .int ty, .int th, .ref mk, .int ml, .ref mfd, .int mf, .int sp, .int on, .int tw])), (ms, .inl (K, 889, .inl (cpB sf 4 3 127)))] H := hP.sub [0, 1] rfl
    have hD9 : va_D A [(mo, .inr (8, [.ref ms, .int sv, .ref mb, .int ty, .int th, .ref mk, .int ml, .ref mfd, .int mf, .int sp, .int on, .int tw])), (ms, .inl (K, 889, .inl (cpB sf 4 3 127)))] := hD.sub [0, 1] (by decide) rfl
    have hK9 : va_K D vwCl [] s := hK.sub [] rfl
    exact W.vret hx hb hr (fun t ht9 hW9 => ⟨⟨(), rfl, by first | rfl | trivial | (simp only [hi, c_2, if_true, if_false, reduceIte, and_self]; done) | simp_all, ⟨by rw [ht9]; exact hP9, va_K.moved hW9.alike hK9, hD9⟩⟩, hS.F ht9⟩) hS.2.2 dX8_copies_36
  · have hc9 := c_2
    have hik : i + 1 ≤ 127 := by rcases Nat.lt_or_ge i 127 with q9 | q9; exact q9; exact absurd (nI_le (a := 127) q9 (by omega)) c_2
    refine lv_aload_n hx hb dX8_copies_8 rfl (lv_at hl 1 rfl) ?_
    refine va_get (D := D) (ci := 8) (v := .ref ms) (C := RX8) (T := TX8) (N := 12) hx hb ht inA_X8 hown hK hP 0 rfl rfl 0 (by decide) (ht _ lf_X8_7) (fun _ h9 => h9) rfl dX8_copies_9 ?_
    refine lv_bipush (v := 127) hx hb dX8_copies_12 (by decide) ?_
    refine lv_iload_n hx hb dX8_copies_14 rfl (lv_at hl 3 rfl) ?_
    refine lv_imul hx hb dX8_copies_15 ?_
    refine k_nrm (y := 381) (by decide) ?_
    refine lv_iload_n hx hb dX8_copies_16 rfl (lv_at hl 0 rfl) ?_
    refine lv_iadd hx hb dX8_copies_17 ?_
    refine k_nrm (y := (nI (127 * 3 + i))) (nI_add (127 * 3) i) ?_
    refine lv_aload_n hx hb dX8_copies_18 rfl (lv_at hl 1 rfl) ?_
    refine va_get (D := D) (ci := 8) (v := .ref ms) (C := RX8) (T := TX8) (N := 12) hx hb ht inA_X8 hown hK hP 0 rfl rfl 0 (by decide) (ht _ lf_X8_7) (fun _ h9 => h9) rfl dX8_copies_19 ?_
    refine lv_bipush (v := 127) hx hb dX8_copies_22 (by decide) ?_
    refine lv_iload_n hx hb dX8_copies_24 rfl (lv_at hl 2 rfl) ?_
    refine lv_imul hx hb dX8_copies_25 ?_
    refine k_nrm (y := 508) (by decide) ?_
    refine lv_iload_n hx hb dX8_copies_26 rfl (lv_at hl 0 rfl) ?_
    refine lv_iadd hx hb dX8_copies_27 ?_
    refine k_nrm (y := (nI (127 * 4 + i))) (nI_add (127 * 4) i) ?_
    refine va_iald hx hb hK hP 1 0 rfl rfl (vp_in_nI (by omega) (by decide)) dX8_copies_28 ?_
    refine k_nrm (y := (sf (127 * 4 + i))) (by rw [nI_clamp (by omega)]; exact cpB_rd (by omega)) ?_
    refine va_iast hx hb hK hP hD hS 1 0 rfl rfl (vp_in_nI (by omega) (by decide)) dX8_copies_29 (fun H locs hP hD hS => ?_)
    have hP : va_P D vwCl [(mo, .inr (8, [.ref ms, .int sv, .ref mb, .int ty, .int th, .ref mk, .int ml, .ref mfd, .int mf, .int sp, .int on, .int tw])), (ms, .inl (K, 889, .inl (upd (cpB sf 4 3 i) ((nI (127 * 3 + i)).toNatClampNeg) (sf (127 * 4 + i)))))] H := hP
    have hD : va_D A [(mo, .inr (8, [.ref ms, .int sv, .ref mb, .int ty, .int th, .ref mk, .int ml, .ref mfd, .int mf, .int sp, .int on, .int tw])), (ms, .inl (K, 889, .inl (upd (cpB sf 4 3 i) ((nI (127 * 3 + i)).toNatClampNeg) (sf (127 * 4 + i)))))] := hD
    have hf9 : upd (cpB sf 4 3 i) ((nI (127 * 3 + i)).toNatClampNeg) (sf (127 * 4 + i)) = (cpB sf 4 3 (i + 1)) := by rw [nI_clamp (by omega)]; exact cpB_s (by omega)
    rw [hf9] at hP hD
    have hP : va_P D vwCl [(mo, .inr (8, [.ref ms, .int sv, .ref mb, .int ty, .int th, .ref mk, .int ml, .ref mfd, .int mf, .int sp, .int on, .int tw])), (ms, .inl (K, 889, .inl (cpB sf 4 3 (i + 1))))] H := hP
    have hD : va_D A [(mo, .inr (8, [.ref ms, .int sv, .ref mb, .int ty, .int th, .ref mk, .int ml, .ref mfd, .int mf, .int sp, .int on, .int tw])), (ms, .inl (K, 889, .inl (cpB sf 4 3 (i + 1))))] := hD
    obtain ⟨x_3, ex_3⟩ : ∃ z : Int32, z = (nI i) + 1 := ⟨_, rfl⟩
    refine lv_iinc (v := x_3) (lv' := [(3, .int x_3), (0, .ref mo), (1, .int 4), (2, .int 3)]) hx hb dX8_copies_30 hl (k := 0) rfl (by rw [ex_3]; rfl) (by decide) rfl (fun ls hl => ?_)
    refine lv_goto (tgt := 2) hx hb dX8_copies_33 (by decide) ?_
    have he9 : x_3 = (nI (i + 1)) := by rw [ex_3]; exact nI_1 i
    rw [he9] at hl
    have hl : lv_has ls 4 [(3, .int (nI (i + 1))), (0, .ref mo), (1, .int 4), (2, .int 3)] := hl
    exact ih9 (i + 1) H locs ls (by omega) ⟨hik, hP.sub [0, 1] rfl, hD.sub [0, 1] (by decide) rfl, hS, lv_sub hl [0, 1, 2, 3] rfl⟩
set_option maxHeartbeats 4000000 in
set_option maxRecDepth 100000 in
theorem c_M_copies_4 (l : Launch) (D : va_G) (mo : Nat) (ms : Nat) (sv : Int32) (mb : Nat) (ty : Int32) (th : Int32) (mk : Nat) (ml : Int32) (mfd : Nat) (mf : Int32) (sp : Int32) (on : Int32) (tw : Int32) (K : ClassId) (sf : Nat → Int32) (sz : Nat) : k_Mv (S := Unit) l D yX8_copies cX8_copies 4 none 0 0 0 0 [.ref mo, .int 5, .int 4] [(mo, .inr (8, [.ref ms, .int sv, .ref mb, .int ty, .int th, .ref mk, .int ml, .ref mfd, .int mf, .int sp, .int on, .int tw])), (ms, .inl (K, 889, .inl sf))] [(K, .int)] (fun (_ : Unit) => True) (fun _ => [(mo, .inr (8, [.ref ms, .int sv, .ref mb, .int ty, .int th, .ref mk, .int ml, .ref mfd, .int mf, .int sp, .int on, .int tw])), (ms, .inl (K, 889, .inl (cpB sf 5 4 127)))]) (fun _ => []) sz := by
  refine Met.ofW (cc := cX8_copies) (maxL := 4) (ret := none) (by decide) rfl ?_
  intro p e s m args below meth c s₁ B hml hv
  obtain ⟨rfl, hsz, hP, hK, hD0, hG⟩ := hv
  have hx := B.exec
  have hb := B.bytes
  have hr := B.returns
  have ht : ∀ v9 ∈ wsA, v9.before ([.ref mo, .int 5, .int 4] : List Value).toArray s = true := fun v9 h9 => atoms_spec (ws := k_ws yX8_copies cX8_copies 4 none) B.pre v9 (List.mem_cons_of_mem _ h9)
  have hown : s.vm.findClass RX8 = some m.cls := findClass_of_methodNamed B.named
  have S0 : k_C p s m ([.ref mo, .int 5, .int 4] : List Value).toArray c cX8_copies 4 RX8 := ⟨hx, hb, hml, hown, ht⟩
  have hlocks := B.notSynchronized
  subst hsz
  have hD := hD0.self (sz := s.heap.size)
  generalize hAe : va_A [(mo, .inr (8, [.ref ms, .int sv, .ref mb, .int ty, .int th, .ref mk, .int ml, .ref mfd, .int mf, .int sp, .int on, .int tw])), (ms, .inl (K, 889, .inl sf))] s.heap.size = A at hD hG ⊢
  have hA : ∀ q : Nat, s.heap.size ≤ q → A q := fun q h => by rw [← hAe]; exact Or.inr h
  have hS : va_S A s.heap s.heap [] := va_S.rf
  have hl := lv_entry ([.ref mo, .int 5, .int 4]) (n := 4) (Nat.le_of_ble_eq_true rfl)
  rw [lg_entry_eq]
  generalize (lg_sl ([.ref mo, .int 5, .int 4]) ++ List.replicate (4 - (lg_sl ([.ref mo, .int 5, .int 4])).length) Slot.unset).toArray = ls at hl ⊢
  have hl : lv_has ls 4 [(0, .ref mo), (1, .int 5), (2, .int 4)] := hl
  have hP : va_P D vwCl [(mo, .inr (8, [.ref ms, .int sv, .ref mb, .int ty, .int th, .ref mk, .int ml, .ref mfd, .int mf, .int sp, .int on, .int tw])), (ms, .inl (K, 889, .inl sf))] s.heap := hP
  refine lv_iconst (v := 0) hx hb dX8_copies_0 (by decide) ?_
  refine lv_istore_n (lv' := [(3, .int 0), (0, .ref mo), (1, .int 5), (2, .int 4)]) hx hb dX8_copies_1 rfl hl (by decide) rfl (fun ls hl => ?_)
  have hf_1 : (sf : Nat → Int32) = (cpB sf 5 4 0) := (cpB_0 sf _ _).symm
  have hP : va_P D vwCl [(mo, .inr (8, [.ref ms, .int sv, .ref mb, .int ty, .int th, .ref mk, .int ml, .ref mfd, .int mf, .int sp, .int on, .int tw])), (ms, .inl (K, 889, .inl (cpB sf 5 4 0)))] s.heap := (congrArg (fun z9 : Nat → Int32 => va_P D vwCl [(mo, .inr (8, [.ref ms, .int sv, .ref mb, .int ty, .int th, .ref mk, .int ml, .ref mfd, .int mf, .int sp, .int on, .int tw])), (ms, .inl (K, 889, .inl z9))] s.heap) hf_1).mp hP
  have hD : va_D A [(mo, .inr (8, [.ref ms, .int sv, .ref mb, .int ty, .int th, .ref mk, .int ml, .ref mfd, .int mf, .int sp, .int on, .int tw])), (ms, .inl (K, 889, .inl (cpB sf 5 4 0)))] := (congrArg (fun z9 : Nat → Int32 => va_D A [(mo, .inr (8, [.ref ms, .int sv, .ref mb, .int ty, .int th, .ref mk, .int ml, .ref mfd, .int mf, .int sp, .int on, .int tw])), (ms, .inl (K, 889, .inl z9))]) hf_1).mp hD
  have hl : lv_has ls 4 [(3, .int (nI 0)), (0, .ref mo), (1, .int 5), (2, .int 4)] := hl
  refine k_loop (ι := Nat) (fun (i : Nat) H9 locs9 ls9 => (i ≤ 127) ∧ va_P D vwCl [(mo, .inr (8, [.ref ms, .int sv, .ref mb, .int ty, .int th, .ref mk, .int ml, .ref mfd, .int mf, .int sp, .int on, .int tw])), (ms, .inl (K, 889, .inl (cpB sf 5 4 i)))] H9 ∧ va_D A [(mo, .inr (8, [.ref ms, .int sv, .ref mb, .int ty, .int th, .ref mk, .int ml, .ref mfd, .int mf, .int sp, .int on, .int tw])), (ms, .inl (K, 889, .inl (cpB sf 5 4 i)))] ∧ va_S A s.heap H9 locs9 ∧ lv_has ls9 4 [(3, .int (nI i)), (0, .ref mo), (1, .int 5), (2, .int 4)]) (fun (i : Nat) => 127 - i) ?_ (0) ⟨(Nat.zero_le _), hP.sub [0, 1] rfl, hD.sub [0, 1] (by decide) rfl, hS, lv_sub hl [0, 1, 2, 3] rfl⟩
  intro x9 H locs ls hF9 ih9
  obtain ⟨i, hv9⟩ : ∃ z, z = x9 := ⟨_, rfl⟩
  subst hv9
  obtain ⟨hi, hP, hD, hS, hl⟩ := hF9
  try dsimp only at ih9
  have hP : va_P D vwCl [(mo, .inr (8, [.ref ms, .int sv, .ref mb, .int ty, .int th, .ref mk, .int ml, .ref mfd, .int mf, .int sp, .int on, .int tw])), (ms, .inl (K, 889, .inl (cpB sf 5 4 i)))] H := hP
  have hD : va_D A [(mo, .inr (8, [.ref ms, .int sv, .ref mb, .int ty, .int th, .ref mk, .int ml, .ref mfd, .int mf, .int sp, .int on, .int tw])), (ms, .inl (K, 889, .inl (cpB sf 5 4 i)))] := hD
  have hl : lv_has ls 4 [(3, .int (nI i)), (0, .ref mo), (1, .int 5), (2, .int 4)] := hl
  refine lv_iload_n hx hb dX8_copies_2 rfl (lv_at hl 0 rfl) ?_
  refine lv_bipush (v := 127) hx hb dX8_copies_3 (by decide) ?_
  refine lv_icmp_ge (tgt := 36) hx hb dX8_copies_5 (by decide) (fun c_2 => ?_) (fun c_2 => ?_)
  · have hc9 := c_2
    obtain rfl : 127 = i := by rcases Nat.lt_or_ge i 127 with q9 | q9; exact absurd c_2 (nI_ge (b := 127) q9 (by omega)); omega
    have hP9 : va_P D vwCl [(mo, .inr (8, [.ref ms, .int sv, .ref mb, .int ty, .int th, .ref mk, .int ml, .ref mfd, .int mf, .int sp, .int on, .int tw])), (ms, .inl (K, 889, .inl (cpB sf 5 4 127)))] H := hP.sub [0, 1] rfl
    have hD9 : va_D A [(mo, .inr (8, [.ref ms, .int sv, .ref mb, .int ty, .int th, .ref mk, .int ml, .ref mfd, .int mf, .int sp, .int on, .int tw])), (ms, .inl (K, 889, .inl (cpB sf 5 4 127)))] := hD.sub [0, 1] (by decide) rfl
    have hK9 : va_K D vwCl [] s := hK.sub [] rfl
    exact W.vret hx hb hr (fun t ht9 hW9 => ⟨⟨(), rfl, by first | rfl | trivial | (simp only [hi, c_2, if_true, if_false, reduceIte, and_self]; done) | simp_all, ⟨by rw [ht9]; exact hP9, va_K.moved hW9.alike hK9, hD9⟩⟩, hS.F ht9⟩) hS.2.2 dX8_copies_36
  · have hc9 := c_2
    have hik : i + 1 ≤ 127 := by rcases Nat.lt_or_ge i 127 with q9 | q9; exact q9; exact absurd (nI_le (a := 127) q9 (by omega)) c_2
    refine lv_aload_n hx hb dX8_copies_8 rfl (lv_at hl 1 rfl) ?_
    refine va_get (D := D) (ci := 8) (v := .ref ms) (C := RX8) (T := TX8) (N := 12) hx hb ht inA_X8 hown hK hP 0 rfl rfl 0 (by decide) (ht _ lf_X8_7) (fun _ h9 => h9) rfl dX8_copies_9 ?_
    refine lv_bipush (v := 127) hx hb dX8_copies_12 (by decide) ?_
    refine lv_iload_n hx hb dX8_copies_14 rfl (lv_at hl 3 rfl) ?_
    refine lv_imul hx hb dX8_copies_15 ?_
    refine k_nrm (y := 508) (by decide) ?_
    refine lv_iload_n hx hb dX8_copies_16 rfl (lv_at hl 0 rfl) ?_
    refine lv_iadd hx hb dX8_copies_17 ?_
    refine k_nrm (y := (nI (127 * 4 + i))) (nI_add (127 * 4) i) ?_
    refine lv_aload_n hx hb dX8_copies_18 rfl (lv_at hl 1 rfl) ?_
    refine va_get (D := D) (ci := 8) (v := .ref ms) (C := RX8) (T := TX8) (N := 12) hx hb ht inA_X8 hown hK hP 0 rfl rfl 0 (by decide) (ht _ lf_X8_7) (fun _ h9 => h9) rfl dX8_copies_19 ?_
    refine lv_bipush (v := 127) hx hb dX8_copies_22 (by decide) ?_
    refine lv_iload_n hx hb dX8_copies_24 rfl (lv_at hl 2 rfl) ?_
    refine lv_imul hx hb dX8_copies_25 ?_
    refine k_nrm (y := 635) (by decide) ?_
    refine lv_iload_n hx hb dX8_copies_26 rfl (lv_at hl 0 rfl) ?_
    refine lv_iadd hx hb dX8_copies_27 ?_
    refine k_nrm (y := (nI (127 * 5 + i))) (nI_add (127 * 5) i) ?_
    refine va_iald hx hb hK hP 1 0 rfl rfl (vp_in_nI (by omega) (by decide)) dX8_copies_28 ?_
    refine k_nrm (y := (sf (127 * 5 + i))) (by rw [nI_clamp (by omega)]; exact cpB_rd (by omega)) ?_
    refine va_iast hx hb hK hP hD hS 1 0 rfl rfl (vp_in_nI (by omega) (by decide)) dX8_copies_29 (fun H locs hP hD hS => ?_)
    have hP : va_P D vwCl [(mo, .inr (8, [.ref ms, .int sv, .ref mb, .int ty, .int th, .ref mk, .int ml, .ref mfd, .int mf, .int sp, .int on, .int tw])), (ms, .inl (K, 889, .inl (upd (cpB sf 5 4 i) ((nI (127 * 4 + i)).toNatClampNeg) (sf (127 * 5 + i)))))] H := hP
    have hD : va_D A [(mo, .inr (8, [.ref ms, .int sv, .ref mb, .int ty, .int th, .ref mk, .int ml, .ref mfd, .int mf, .int sp, .int on, .int tw])), (ms, .inl (K, 889, .inl (upd (cpB sf 5 4 i) ((nI (127 * 4 + i)).toNatClampNeg) (sf (127 * 5 + i)))))] := hD
    have hf9 : upd (cpB sf 5 4 i) ((nI (127 * 4 + i)).toNatClampNeg) (sf (127 * 5 + i)) = (cpB sf 5 4 (i + 1)) := by rw [nI_clamp (by omega)]; exact cpB_s (by omega)
    rw [hf9] at hP hD
    have hP : va_P D vwCl [(mo, .inr (8, [.ref ms, .int sv, .ref mb, .int ty, .int th, .ref mk, .int ml, .ref mfd, .int mf, .int sp, .int on, .int tw])), (ms, .inl (K, 889, .inl (cpB sf 5 4 (i + 1))))] H := hP
    have hD : va_D A [(mo, .inr (8, [.ref ms, .int sv, .ref mb, .int ty, .int th, .ref mk, .int ml, .ref mfd, .int mf, .int sp, .int on, .int tw])), (ms, .inl (K, 889, .inl (cpB sf 5 4 (i + 1))))] := hD
    obtain ⟨x_3, ex_3⟩ : ∃ z : Int32, z = (nI i) + 1 := ⟨_, rfl⟩
    refine lv_iinc (v := x_3) (lv' := [(3, .int x_3), (0, .ref mo), (1, .int 5), (2, .int 4)]) hx hb dX8_copies_30 hl (k := 0) rfl (by rw [ex_3]; rfl) (by decide) rfl (fun ls hl => ?_)
    refine lv_goto (tgt := 2) hx hb dX8_copies_33 (by decide) ?_
    have he9 : x_3 = (nI (i + 1)) := by rw [ex_3]; exact nI_1 i
    rw [he9] at hl
    have hl : lv_has ls 4 [(3, .int (nI (i + 1))), (0, .ref mo), (1, .int 5), (2, .int 4)] := hl
    exact ih9 (i + 1) H locs ls (by omega) ⟨hik, hP.sub [0, 1] rfl, hD.sub [0, 1] (by decide) rfl, hS, lv_sub hl [0, 1, 2, 3] rfl⟩
set_option maxHeartbeats 4000000 in
set_option maxRecDepth 100000 in
theorem c_M_copies_5 (l : Launch) (D : va_G) (mo : Nat) (ms : Nat) (sv : Int32) (mb : Nat) (ty : Int32) (th : Int32) (mk : Nat) (ml : Int32) (mfd : Nat) (mf : Int32) (sp : Int32) (on : Int32) (tw : Int32) (K : ClassId) (sf : Nat → Int32) (sz : Nat) : k_Mv (S := Unit) l D yX8_copies cX8_copies 4 none 0 0 0 0 [.ref mo, .int 6, .int 5] [(mo, .inr (8, [.ref ms, .int sv, .ref mb, .int ty, .int th, .ref mk, .int ml, .ref mfd, .int mf, .int sp, .int on, .int tw])), (ms, .inl (K, 889, .inl sf))] [(K, .int)] (fun (_ : Unit) => True) (fun _ => [(mo, .inr (8, [.ref ms, .int sv, .ref mb, .int ty, .int th, .ref mk, .int ml, .ref mfd, .int mf, .int sp, .int on, .int tw])), (ms, .inl (K, 889, .inl (cpB sf 6 5 127)))]) (fun _ => []) sz := by
  refine Met.ofW (cc := cX8_copies) (maxL := 4) (ret := none) (by decide) rfl ?_
  intro p e s m args below meth c s₁ B hml hv
  obtain ⟨rfl, hsz, hP, hK, hD0, hG⟩ := hv
  have hx := B.exec
  have hb := B.bytes
  have hr := B.returns
  have ht : ∀ v9 ∈ wsA, v9.before ([.ref mo, .int 6, .int 5] : List Value).toArray s = true := fun v9 h9 => atoms_spec (ws := k_ws yX8_copies cX8_copies 4 none) B.pre v9 (List.mem_cons_of_mem _ h9)
  have hown : s.vm.findClass RX8 = some m.cls := findClass_of_methodNamed B.named
  have S0 : k_C p s m ([.ref mo, .int 6, .int 5] : List Value).toArray c cX8_copies 4 RX8 := ⟨hx, hb, hml, hown, ht⟩
  have hlocks := B.notSynchronized
  subst hsz
  have hD := hD0.self (sz := s.heap.size)
  generalize hAe : va_A [(mo, .inr (8, [.ref ms, .int sv, .ref mb, .int ty, .int th, .ref mk, .int ml, .ref mfd, .int mf, .int sp, .int on, .int tw])), (ms, .inl (K, 889, .inl sf))] s.heap.size = A at hD hG ⊢
  have hA : ∀ q : Nat, s.heap.size ≤ q → A q := fun q h => by rw [← hAe]; exact Or.inr h
  have hS : va_S A s.heap s.heap [] := va_S.rf
  have hl := lv_entry ([.ref mo, .int 6, .int 5]) (n := 4) (Nat.le_of_ble_eq_true rfl)
  rw [lg_entry_eq]
  generalize (lg_sl ([.ref mo, .int 6, .int 5]) ++ List.replicate (4 - (lg_sl ([.ref mo, .int 6, .int 5])).length) Slot.unset).toArray = ls at hl ⊢
  have hl : lv_has ls 4 [(0, .ref mo), (1, .int 6), (2, .int 5)] := hl
  have hP : va_P D vwCl [(mo, .inr (8, [.ref ms, .int sv, .ref mb, .int ty, .int th, .ref mk, .int ml, .ref mfd, .int mf, .int sp, .int on, .int tw])), (ms, .inl (K, 889, .inl sf))] s.heap := hP
  refine lv_iconst (v := 0) hx hb dX8_copies_0 (by decide) ?_
  refine lv_istore_n (lv' := [(3, .int 0), (0, .ref mo), (1, .int 6), (2, .int 5)]) hx hb dX8_copies_1 rfl hl (by decide) rfl (fun ls hl => ?_)
  have hf_1 : (sf : Nat → Int32) = (cpB sf 6 5 0) := (cpB_0 sf _ _).symm
  have hP : va_P D vwCl [(mo, .inr (8, [.ref ms, .int sv, .ref mb, .int ty, .int th, .ref mk, .int ml, .ref mfd, .int mf, .int sp, .int on, .int tw])), (ms, .inl (K, 889, .inl (cpB sf 6 5 0)))] s.heap := (congrArg (fun z9 : Nat → Int32 => va_P D vwCl [(mo, .inr (8, [.ref ms, .int sv, .ref mb, .int ty, .int th, .ref mk, .int ml, .ref mfd, .int mf, .int sp, .int on, .int tw])), (ms, .inl (K, 889, .inl z9))] s.heap) hf_1).mp hP
  have hD : va_D A [(mo, .inr (8, [.ref ms, .int sv, .ref mb, .int ty, .int th, .ref mk, .int ml, .ref mfd, .int mf, .int sp, .int on, .int tw])), (ms, .inl (K, 889, .inl (cpB sf 6 5 0)))] := (congrArg (fun z9 : Nat → Int32 => va_D A [(mo, .inr (8, [.ref ms, .int sv, .ref mb, .int ty, .int th, .ref mk, .int ml, .ref mfd, .int mf, .int sp, .int on, .int tw])), (ms, .inl (K, 889, .inl z9))]) hf_1).mp hD
  have hl : lv_has ls 4 [(3, .int (nI 0)), (0, .ref mo), (1, .int 6), (2, .int 5)] := hl
  refine k_loop (ι := Nat) (fun (i : Nat) H9 locs9 ls9 => (i ≤ 127) ∧ va_P D vwCl [(mo, .inr (8, [.ref ms, .int sv, .ref mb, .int ty, .int th, .ref mk, .int ml, .ref mfd, .int mf, .int sp, .int on, .int tw])), (ms, .inl (K, 889, .inl (cpB sf 6 5 i)))] H9 ∧ va_D A [(mo, .inr (8, [.ref ms, .int sv, .ref mb, .int ty, .int th, .ref mk, .int ml, .ref mfd, .int mf, .int sp, .int on, .int tw])), (ms, .inl (K, 889, .inl (cpB sf 6 5 i)))] ∧ va_S A s.heap H9 locs9 ∧ lv_has ls9 4 [(3, .int (nI i)), (0, .ref mo), (1, .int 6), (2, .int 5)]) (fun (i : Nat) => 127 - i) ?_ (0) ⟨(Nat.zero_le _), hP.sub [0, 1] rfl, hD.sub [0, 1] (by decide) rfl, hS, lv_sub hl [0, 1, 2, 3] rfl⟩
  intro x9 H locs ls hF9 ih9
  obtain ⟨i, hv9⟩ : ∃ z, z = x9 := ⟨_, rfl⟩
  subst hv9
  obtain ⟨hi, hP, hD, hS, hl⟩ := hF9
  try dsimp only at ih9
  have hP : va_P D vwCl [(mo, .inr (8, [.ref ms, .int sv, .ref mb, .int ty, .int th, .ref mk, .int ml, .ref mfd, .int mf, .int sp, .int on, .int tw])), (ms, .inl (K, 889, .inl (cpB sf 6 5 i)))] H := hP
  have hD : va_D A [(mo, .inr (8, [.ref ms, .int sv, .ref mb, .int ty, .int th, .ref mk, .int ml, .ref mfd, .int mf, .int sp, .int on, .int tw])), (ms, .inl (K, 889, .inl (cpB sf 6 5 i)))] := hD
  have hl : lv_has ls 4 [(3, .int (nI i)), (0, .ref mo), (1, .int 6), (2, .int 5)] := hl
  refine lv_iload_n hx hb dX8_copies_2 rfl (lv_at hl 0 rfl) ?_
  refine lv_bipush (v := 127) hx hb dX8_copies_3 (by decide) ?_
  refine lv_icmp_ge (tgt := 36) hx hb dX8_copies_5 (by decide) (fun c_2 => ?_) (fun c_2 => ?_)
  · have hc9 := c_2
    obtain rfl : 127 = i := by rcases Nat.lt_or_ge i 127 with q9 | q9; exact absurd c_2 (nI_ge (b := 127) q9 (by omega)); omega
    have hP9 : va_P D vwCl [(mo, .inr (8, [.ref ms, .int sv, .ref mb, .int ty, .int th, .ref mk, .int ml, .ref mfd, .int mf, .int sp, .int on, .int tw])), (ms, .inl (K, 889, .inl (cpB sf 6 5 127)))] H := hP.sub [0, 1] rfl
    have hD9 : va_D A [(mo, .inr (8, [.ref ms, .int sv, .ref mb, .int ty, .int th, .ref mk, .int ml, .ref mfd, .int mf, .int sp, .int on, .int tw])), (ms, .inl (K, 889, .inl (cpB sf 6 5 127)))] := hD.sub [0, 1] (by decide) rfl
    have hK9 : va_K D vwCl [] s := hK.sub [] rfl
    exact W.vret hx hb hr (fun t ht9 hW9 => ⟨⟨(), rfl, by first | rfl | trivial | (simp only [hi, c_2, if_true, if_false, reduceIte, and_self]; done) | simp_all, ⟨by rw [ht9]; exact hP9, va_K.moved hW9.alike hK9, hD9⟩⟩, hS.F ht9⟩) hS.2.2 dX8_copies_36
  · have hc9 := c_2
    have hik : i + 1 ≤ 127 := by rcases Nat.lt_or_ge i 127 with q9 | q9; exact q9; exact absurd (nI_le (a := 127) q9 (by omega)) c_2
    refine lv_aload_n hx hb dX8_copies_8 rfl (lv_at hl 1 rfl) ?_
    refine va_get (D := D) (ci := 8) (v := .ref ms) (C := RX8) (T := TX8) (N := 12) hx hb ht inA_X8 hown hK hP 0 rfl rfl 0 (by decide) (ht _ lf_X8_7) (fun _ h9 => h9) rfl dX8_copies_9 ?_
    refine lv_bipush (v := 127) hx hb dX8_copies_12 (by decide) ?_
    refine lv_iload_n hx hb dX8_copies_14 rfl (lv_at hl 3 rfl) ?_
    refine lv_imul hx hb dX8_copies_15 ?_
    refine k_nrm (y := 635) (by decide) ?_
    refine lv_iload_n hx hb dX8_copies_16 rfl (lv_at hl 0 rfl) ?_
    refine lv_iadd hx hb dX8_copies_17 ?_
    refine k_nrm (y := (nI (127 * 5 + i))) (nI_add (127 * 5) i) ?_
    refine lv_aload_n hx hb dX8_copies_18 rfl (lv_at hl 1 rfl) ?_
    refine va_get (D := D) (ci := 8) (v := .ref ms) (C := RX8) (T := TX8) (N := 12) hx hb ht inA_X8 hown hK hP 0 rfl rfl 0 (by decide) (ht _ lf_X8_7) (fun _ h9 => h9) rfl dX8_copies_19 ?_
    refine lv_bipush (v := 127) hx hb dX8_copies_22 (by decide) ?_
    refine lv_iload_n hx hb dX8_copies_24 rfl (lv_at hl 2 rfl) ?_
    refine lv_imul hx hb dX8_copies_25 ?_
    refine k_nrm (y := 762) (by decide) ?_
    refine lv_iload_n hx hb dX8_copies_26 rfl (lv_at hl 0 rfl) ?_
    refine lv_iadd hx hb dX8_copies_27 ?_
    refine k_nrm (y := (nI (127 * 6 + i))) (nI_add (127 * 6) i) ?_
    refine va_iald hx hb hK hP 1 0 rfl rfl (vp_in_nI (by omega) (by decide)) dX8_copies_28 ?_
    refine k_nrm (y := (sf (127 * 6 + i))) (by rw [nI_clamp (by omega)]; exact cpB_rd (by omega)) ?_
    refine va_iast hx hb hK hP hD hS 1 0 rfl rfl (vp_in_nI (by omega) (by decide)) dX8_copies_29 (fun H locs hP hD hS => ?_)
    have hP : va_P D vwCl [(mo, .inr (8, [.ref ms, .int sv, .ref mb, .int ty, .int th, .ref mk, .int ml, .ref mfd, .int mf, .int sp, .int on, .int tw])), (ms, .inl (K, 889, .inl (upd (cpB sf 6 5 i) ((nI (127 * 5 + i)).toNatClampNeg) (sf (127 * 6 + i)))))] H := hP
    have hD : va_D A [(mo, .inr (8, [.ref ms, .int sv, .ref mb, .int ty, .int th, .ref mk, .int ml, .ref mfd, .int mf, .int sp, .int on, .int tw])), (ms, .inl (K, 889, .inl (upd (cpB sf 6 5 i) ((nI (127 * 5 + i)).toNatClampNeg) (sf (127 * 6 + i)))))] := hD
    have hf9 : upd (cpB sf 6 5 i) ((nI (127 * 5 + i)).toNatClampNeg) (sf (127 * 6 + i)) = (cpB sf 6 5 (i + 1)) := by rw [nI_clamp (by omega)]; exact cpB_s (by omega)
    rw [hf9] at hP hD
    have hP : va_P D vwCl [(mo, .inr (8, [.ref ms, .int sv, .ref mb, .int ty, .int th, .ref mk, .int ml, .ref mfd, .int mf, .int sp, .int on, .int tw])), (ms, .inl (K, 889, .inl (cpB sf 6 5 (i + 1))))] H := hP
    have hD : va_D A [(mo, .inr (8, [.ref ms, .int sv, .ref mb, .int ty, .int th, .ref mk, .int ml, .ref mfd, .int mf, .int sp, .int on, .int tw])), (ms, .inl (K, 889, .inl (cpB sf 6 5 (i + 1))))] := hD
    obtain ⟨x_3, ex_3⟩ : ∃ z : Int32, z = (nI i) + 1 := ⟨_, rfl⟩
    refine lv_iinc (v := x_3) (lv' := [(3, .int x_3), (0, .ref mo), (1, .int 6), (2, .int 5)]) hx hb dX8_copies_30 hl (k := 0) rfl (by rw [ex_3]; rfl) (by decide) rfl (fun ls hl => ?_)
    refine lv_goto (tgt := 2) hx hb dX8_copies_33 (by decide) ?_
    have he9 : x_3 = (nI (i + 1)) := by rw [ex_3]; exact nI_1 i
    rw [he9] at hl
    have hl : lv_has ls 4 [(3, .int (nI (i + 1))), (0, .ref mo), (1, .int 6), (2, .int 5)] := hl
    exact ih9 (i + 1) H locs ls (by omega) ⟨hik, hP.sub [0, 1] rfl, hD.sub [0, 1] (by decide) rfl, hS, lv_sub hl [0, 1, 2, 3] rfl⟩
set_option maxHeartbeats 4000000 in
set_option maxRecDepth 100000 in
theorem c_M_copies_sv (l : Launch) (D : va_G) (mo : Nat) (ms : Nat) (sv : Int32) (mb : Nat) (ty : Int32) (th : Int32) (mk : Nat) (ml : Int32) (mfd : Nat) (mf : Int32) (sp : Int32) (on : Int32) (tw : Int32) (K : ClassId) (sf : Nat → Int32) (bk : Nat) (hbk : bk ≤ 6) (sz : Nat) : k_Mv (S := Unit) l D yX8_copies cX8_copies 4 none 0 0 0 0 [.ref mo, .int 0, .int (nI bk)] [(mo, .inr (8, [.ref ms, .int sv, .ref mb, .int ty, .int th, .ref mk, .int ml, .ref mfd, .int mf, .int sp, .int on, .int tw])), (ms, .inl (K, 889, .inl sf))] [(K, .int)] (fun (_ : Unit) => True) (fun _ => [(mo, .inr (8, [.ref ms, .int sv, .ref mb, .int ty, .int th, .ref mk, .int ml, .ref mfd, .int mf, .int sp, .int on, .int tw])), (ms, .inl (K, 889, .inl (cpB sf 0 bk 127)))]) (fun _ => []) sz := by
  refine Met.ofW (cc := cX8_copies) (maxL := 4) (ret := none) (by decide) rfl ?_
  intro p e s m args below meth c s₁ B hml hv
  obtain ⟨rfl, hsz, hP, hK, hD0, hG⟩ := hv
  have hx := B.exec
  have hb := B.bytes
  have hr := B.returns
  have ht : ∀ v9 ∈ wsA, v9.before ([.ref mo, .int 0, .int (nI bk)] : List Value).toArray s = true := fun v9 h9 => atoms_spec (ws := k_ws yX8_copies cX8_copies 4 none) B.pre v9 (List.mem_cons_of_mem _ h9)
  have hown : s.vm.findClass RX8 = some m.cls := findClass_of_methodNamed B.named
  have S0 : k_C p s m ([.ref mo, .int 0, .int (nI bk)] : List Value).toArray c cX8_copies 4 RX8 := ⟨hx, hb, hml, hown, ht⟩
  have hlocks := B.notSynchronized
  subst hsz
  have hD := hD0.self (sz := s.heap.size)
  generalize hAe : va_A [(mo, .inr (8, [.ref ms, .int sv, .ref mb, .int ty, .int th, .ref mk, .int ml, .ref mfd, .int mf, .int sp, .int on, .int tw])), (ms, .inl (K, 889, .inl sf))] s.heap.size = A at hD hG ⊢
  have hA : ∀ q : Nat, s.heap.size ≤ q → A q := fun q h => by rw [← hAe]; exact Or.inr h
  have hS : va_S A s.heap s.heap [] := va_S.rf
  have hl := lv_entry ([.ref mo, .int 0, .int (nI bk)]) (n := 4) (Nat.le_of_ble_eq_true rfl)
  rw [lg_entry_eq]
  generalize (lg_sl ([.ref mo, .int 0, .int (nI bk)]) ++ List.replicate (4 - (lg_sl ([.ref mo, .int 0, .int (nI bk)])).length) Slot.unset).toArray = ls at hl ⊢
  have hl : lv_has ls 4 [(0, .ref mo), (1, .int 0), (2, .int (nI bk))] := hl
  have hP : va_P D vwCl [(mo, .inr (8, [.ref ms, .int sv, .ref mb, .int ty, .int th, .ref mk, .int ml, .ref mfd, .int mf, .int sp, .int on, .int tw])), (ms, .inl (K, 889, .inl sf))] s.heap := hP
  refine lv_iconst (v := 0) hx hb dX8_copies_0 (by decide) ?_
  refine lv_istore_n (lv' := [(3, .int 0), (0, .ref mo), (1, .int 0), (2, .int (nI bk))]) hx hb dX8_copies_1 rfl hl (by decide) rfl (fun ls hl => ?_)
  have hf_1 : (sf : Nat → Int32) = (cpB sf 0 bk 0) := (cpB_0 sf _ _).symm
  have hP : va_P D vwCl [(mo, .inr (8, [.ref ms, .int sv, .ref mb, .int ty, .int th, .ref mk, .int ml, .ref mfd, .int mf, .int sp, .int on, .int tw])), (ms, .inl (K, 889, .inl (cpB sf 0 bk 0)))] s.heap := (congrArg (fun z9 : Nat → Int32 => va_P D vwCl [(mo, .inr (8, [.ref ms, .int sv, .ref mb, .int ty, .int th, .ref mk, .int ml, .ref mfd, .int mf, .int sp, .int on, .int tw])), (ms, .inl (K, 889, .inl z9))] s.heap) hf_1).mp hP
  have hD : va_D A [(mo, .inr (8, [.ref ms, .int sv, .ref mb, .int ty, .int th, .ref mk, .int ml, .ref mfd, .int mf, .int sp, .int on, .int tw])), (ms, .inl (K, 889, .inl (cpB sf 0 bk 0)))] := (congrArg (fun z9 : Nat → Int32 => va_D A [(mo, .inr (8, [.ref ms, .int sv, .ref mb, .int ty, .int th, .ref mk, .int ml, .ref mfd, .int mf, .int sp, .int on, .int tw])), (ms, .inl (K, 889, .inl z9))]) hf_1).mp hD
  have hl : lv_has ls 4 [(3, .int (nI 0)), (0, .ref mo), (1, .int 0), (2, .int (nI bk))] := hl
  refine k_loop (ι := Nat) (fun (i : Nat) H9 locs9 ls9 => (i ≤ 127) ∧ va_P D vwCl [(mo, .inr (8, [.ref ms, .int sv, .ref mb, .int ty, .int th, .ref mk, .int ml, .ref mfd, .int mf, .int sp, .int on, .int tw])), (ms, .inl (K, 889, .inl (cpB sf 0 bk i)))] H9 ∧ va_D A [(mo, .inr (8, [.ref ms, .int sv, .ref mb, .int ty, .int th, .ref mk, .int ml, .ref mfd, .int mf, .int sp, .int on, .int tw])), (ms, .inl (K, 889, .inl (cpB sf 0 bk i)))] ∧ va_S A s.heap H9 locs9 ∧ lv_has ls9 4 [(3, .int (nI i)), (0, .ref mo), (1, .int 0), (2, .int (nI bk))]) (fun (i : Nat) => 127 - i) ?_ (0) ⟨(Nat.zero_le _), hP.sub [0, 1] rfl, hD.sub [0, 1] (by decide) rfl, hS, lv_sub hl [0, 1, 2, 3] rfl⟩
  intro x9 H locs ls hF9 ih9
  obtain ⟨i, hv9⟩ : ∃ z, z = x9 := ⟨_, rfl⟩
  subst hv9
  obtain ⟨hi, hP, hD, hS, hl⟩ := hF9
  try dsimp only at ih9
  have hP : va_P D vwCl [(mo, .inr (8, [.ref ms, .int sv, .ref mb, .int ty, .int th, .ref mk, .int ml, .ref mfd, .int mf, .int sp, .int on, .int tw])), (ms, .inl (K, 889, .inl (cpB sf 0 bk i)))] H := hP
  have hD : va_D A [(mo, .inr (8, [.ref ms, .int sv, .ref mb, .int ty, .int th, .ref mk, .int ml, .ref mfd, .int mf, .int sp, .int on, .int tw])), (ms, .inl (K, 889, .inl (cpB sf 0 bk i)))] := hD
  have hl : lv_has ls 4 [(3, .int (nI i)), (0, .ref mo), (1, .int 0), (2, .int (nI bk))] := hl
  refine lv_iload_n hx hb dX8_copies_2 rfl (lv_at hl 0 rfl) ?_
  refine lv_bipush (v := 127) hx hb dX8_copies_3 (by decide) ?_
  refine lv_icmp_ge (tgt := 36) hx hb dX8_copies_5 (by decide) (fun c_2 => ?_) (fun c_2 => ?_)
  · have hc9 := c_2
    obtain rfl : 127 = i := by rcases Nat.lt_or_ge i 127 with q9 | q9; exact absurd c_2 (nI_ge (b := 127) q9 (by omega)); omega
    have hP9 : va_P D vwCl [(mo, .inr (8, [.ref ms, .int sv, .ref mb, .int ty, .int th, .ref mk, .int ml, .ref mfd, .int mf, .int sp, .int on, .int tw])), (ms, .inl (K, 889, .inl (cpB sf 0 bk 127)))] H := hP.sub [0, 1] rfl
    have hD9 : va_D A [(mo, .inr (8, [.ref ms, .int sv, .ref mb, .int ty, .int th, .ref mk, .int ml, .ref mfd, .int mf, .int sp, .int on, .int tw])), (ms, .inl (K, 889, .inl (cpB sf 0 bk 127)))] := hD.sub [0, 1] (by decide) rfl
    have hK9 : va_K D vwCl [] s := hK.sub [] rfl
    exact W.vret hx hb hr (fun t ht9 hW9 => ⟨⟨(), rfl, by first | rfl | trivial | (simp only [hi, c_2, if_true, if_false, reduceIte, and_self]; done) | simp_all, ⟨by rw [ht9]; exact hP9, va_K.moved hW9.alike hK9, hD9⟩⟩, hS.F ht9⟩) hS.2.2 dX8_copies_36
  · have hc9 := c_2
    have hik : i + 1 ≤ 127 := by rcases Nat.lt_or_ge i 127 with q9 | q9; exact q9; exact absurd (nI_le (a := 127) q9 (by omega)) c_2
    refine lv_aload_n hx hb dX8_copies_8 rfl (lv_at hl 1 rfl) ?_
    refine va_get (D := D) (ci := 8) (v := .ref ms) (C := RX8) (T := TX8) (N := 12) hx hb ht inA_X8 hown hK hP 0 rfl rfl 0 (by decide) (ht _ lf_X8_7) (fun _ h9 => h9) rfl dX8_copies_9 ?_
    refine lv_bipush (v := 127) hx hb dX8_copies_12 (by decide) ?_
    refine lv_iload_n hx hb dX8_copies_14 rfl (lv_at hl 3 rfl) ?_
    refine lv_imul hx hb dX8_copies_15 ?_
    refine k_nrm (y := (nI (127 * bk))) (pk_mul 127 bk) ?_
    refine lv_iload_n hx hb dX8_copies_16 rfl (lv_at hl 0 rfl) ?_
    refine lv_iadd hx hb dX8_copies_17 ?_
    refine k_nrm (y := (nI (127 * bk + i))) (nI_add (127 * bk) i) ?_
    refine lv_aload_n hx hb dX8_copies_18 rfl (lv_at hl 1 rfl) ?_
    refine va_get (D := D) (ci := 8) (v := .ref ms) (C := RX8) (T := TX8) (N := 12) hx hb ht inA_X8 hown hK hP 0 rfl rfl 0 (by decide) (ht _ lf_X8_7) (fun _ h9 => h9) rfl dX8_copies_19 ?_
    refine lv_bipush (v := 127) hx hb dX8_copies_22 (by decide) ?_
    refine lv_iload_n hx hb dX8_copies_24 rfl (lv_at hl 2 rfl) ?_
    refine lv_imul hx hb dX8_copies_25 ?_
    refine k_nrm (y := 0) (by decide) ?_
    refine lv_iload_n hx hb dX8_copies_26 rfl (lv_at hl 0 rfl) ?_
    refine lv_iadd hx hb dX8_copies_27 ?_
    refine k_nrm (y := (nI (127 * 0 + i))) (nI_add (127 * 0) i) ?_
    refine va_iald hx hb hK hP 1 0 rfl rfl (vp_in_nI (by omega) (by decide)) dX8_copies_28 ?_
    refine k_nrm (y := (sf (127 * 0 + i))) (by rw [nI_clamp (by omega)]; exact cpB_rd (by omega)) ?_
    refine va_iast hx hb hK hP hD hS 1 0 rfl rfl (vp_in_nI (by omega) (by decide)) dX8_copies_29 (fun H locs hP hD hS => ?_)
    have hP : va_P D vwCl [(mo, .inr (8, [.ref ms, .int sv, .ref mb, .int ty, .int th, .ref mk, .int ml, .ref mfd, .int mf, .int sp, .int on, .int tw])), (ms, .inl (K, 889, .inl (upd (cpB sf 0 bk i) ((nI (127 * bk + i)).toNatClampNeg) (sf (127 * 0 + i)))))] H := hP
    have hD : va_D A [(mo, .inr (8, [.ref ms, .int sv, .ref mb, .int ty, .int th, .ref mk, .int ml, .ref mfd, .int mf, .int sp, .int on, .int tw])), (ms, .inl (K, 889, .inl (upd (cpB sf 0 bk i) ((nI (127 * bk + i)).toNatClampNeg) (sf (127 * 0 + i)))))] := hD
    have hf9 : upd (cpB sf 0 bk i) ((nI (127 * bk + i)).toNatClampNeg) (sf (127 * 0 + i)) = (cpB sf 0 bk (i + 1)) := by rw [nI_clamp (by omega)]; exact cpB_s (by omega)
    rw [hf9] at hP hD
    have hP : va_P D vwCl [(mo, .inr (8, [.ref ms, .int sv, .ref mb, .int ty, .int th, .ref mk, .int ml, .ref mfd, .int mf, .int sp, .int on, .int tw])), (ms, .inl (K, 889, .inl (cpB sf 0 bk (i + 1))))] H := hP
    have hD : va_D A [(mo, .inr (8, [.ref ms, .int sv, .ref mb, .int ty, .int th, .ref mk, .int ml, .ref mfd, .int mf, .int sp, .int on, .int tw])), (ms, .inl (K, 889, .inl (cpB sf 0 bk (i + 1))))] := hD
    obtain ⟨x_3, ex_3⟩ : ∃ z : Int32, z = (nI i) + 1 := ⟨_, rfl⟩
    refine lv_iinc (v := x_3) (lv' := [(3, .int x_3), (0, .ref mo), (1, .int 0), (2, .int (nI bk))]) hx hb dX8_copies_30 hl (k := 0) rfl (by rw [ex_3]; rfl) (by decide) rfl (fun ls hl => ?_)
    refine lv_goto (tgt := 2) hx hb dX8_copies_33 (by decide) ?_
    have he9 : x_3 = (nI (i + 1)) := by rw [ex_3]; exact nI_1 i
    rw [he9] at hl
    have hl : lv_has ls 4 [(3, .int (nI (i + 1))), (0, .ref mo), (1, .int 0), (2, .int (nI bk))] := hl
    exact ih9 (i + 1) H locs ls (by omega) ⟨hik, hP.sub [0, 1] rfl, hD.sub [0, 1] (by decide) rfl, hS, lv_sub hl [0, 1, 2, 3] rfl⟩
set_option maxHeartbeats 4000000 in
set_option maxRecDepth 100000 in
theorem c_M_copies_un (l : Launch) (D : va_G) (mo : Nat) (ms : Nat) (sv : Int32) (mb : Nat) (ty : Int32) (th : Int32) (mk : Nat) (ml : Int32) (mfd : Nat) (mf : Int32) (sp : Int32) (on : Int32) (tw : Int32) (K : ClassId) (sf : Nat → Int32) (ak : Nat) (hak : ak ≤ 6) (sz : Nat) : k_Mv (S := Unit) l D yX8_copies cX8_copies 4 none 0 0 0 0 [.ref mo, .int (nI ak), .int 0] [(mo, .inr (8, [.ref ms, .int sv, .ref mb, .int ty, .int th, .ref mk, .int ml, .ref mfd, .int mf, .int sp, .int on, .int tw])), (ms, .inl (K, 889, .inl sf))] [(K, .int)] (fun (_ : Unit) => True) (fun _ => [(mo, .inr (8, [.ref ms, .int sv, .ref mb, .int ty, .int th, .ref mk, .int ml, .ref mfd, .int mf, .int sp, .int on, .int tw])), (ms, .inl (K, 889, .inl (cpB sf ak 0 127)))]) (fun _ => []) sz := by
  refine Met.ofW (cc := cX8_copies) (maxL := 4) (ret := none) (by decide) rfl ?_
  intro p e s m args below meth c s₁ B hml hv
  obtain ⟨rfl, hsz, hP, hK, hD0, hG⟩ := hv
  have hx := B.exec
  have hb := B.bytes
  have hr := B.returns
  have ht : ∀ v9 ∈ wsA, v9.before ([.ref mo, .int (nI ak), .int 0] : List Value).toArray s = true := fun v9 h9 => atoms_spec (ws := k_ws yX8_copies cX8_copies 4 none) B.pre v9 (List.mem_cons_of_mem _ h9)
  have hown : s.vm.findClass RX8 = some m.cls := findClass_of_methodNamed B.named
  have S0 : k_C p s m ([.ref mo, .int (nI ak), .int 0] : List Value).toArray c cX8_copies 4 RX8 := ⟨hx, hb, hml, hown, ht⟩
  have hlocks := B.notSynchronized
  subst hsz
  have hD := hD0.self (sz := s.heap.size)
  generalize hAe : va_A [(mo, .inr (8, [.ref ms, .int sv, .ref mb, .int ty, .int th, .ref mk, .int ml, .ref mfd, .int mf, .int sp, .int on, .int tw])), (ms, .inl (K, 889, .inl sf))] s.heap.size = A at hD hG ⊢
  have hA : ∀ q : Nat, s.heap.size ≤ q → A q := fun q h => by rw [← hAe]; exact Or.inr h
  have hS : va_S A s.heap s.heap [] := va_S.rf
  have hl := lv_entry ([.ref mo, .int (nI ak), .int 0]) (n := 4) (Nat.le_of_ble_eq_true rfl)
  rw [lg_entry_eq]
  generalize (lg_sl ([.ref mo, .int (nI ak), .int 0]) ++ List.replicate (4 - (lg_sl ([.ref mo, .int (nI ak), .int 0])).length) Slot.unset).toArray = ls at hl ⊢
  have hl : lv_has ls 4 [(0, .ref mo), (1, .int (nI ak)), (2, .int 0)] := hl
  have hP : va_P D vwCl [(mo, .inr (8, [.ref ms, .int sv, .ref mb, .int ty, .int th, .ref mk, .int ml, .ref mfd, .int mf, .int sp, .int on, .int tw])), (ms, .inl (K, 889, .inl sf))] s.heap := hP
  refine lv_iconst (v := 0) hx hb dX8_copies_0 (by decide) ?_
  refine lv_istore_n (lv' := [(3, .int 0), (0, .ref mo), (1, .int (nI ak)), (2, .int 0)]) hx hb dX8_copies_1 rfl hl (by decide) rfl (fun ls hl => ?_)
  have hf_1 : (sf : Nat → Int32) = (cpB sf ak 0 0) := (cpB_0 sf _ _).symm
  have hP : va_P D vwCl [(mo, .inr (8, [.ref ms, .int sv, .ref mb, .int ty, .int th, .ref mk, .int ml, .ref mfd, .int mf, .int sp, .int on, .int tw])), (ms, .inl (K, 889, .inl (cpB sf ak 0 0)))] s.heap := (congrArg (fun z9 : Nat → Int32 => va_P D vwCl [(mo, .inr (8, [.ref ms, .int sv, .ref mb, .int ty, .int th, .ref mk, .int ml, .ref mfd, .int mf, .int sp, .int on, .int tw])), (ms, .inl (K, 889, .inl z9))] s.heap) hf_1).mp hP
  have hD : va_D A [(mo, .inr (8, [.ref ms, .int sv, .ref mb, .int ty, .int th, .ref mk, .int ml, .ref mfd, .int mf, .int sp, .int on, .int tw])), (ms, .inl (K, 889, .inl (cpB sf ak 0 0)))] := (congrArg (fun z9 : Nat → Int32 => va_D A [(mo, .inr (8, [.ref ms, .int sv, .ref mb, .int ty, .int th, .ref mk, .int ml, .ref mfd, .int mf, .int sp, .int on, .int tw])), (ms, .inl (K, 889, .inl z9))]) hf_1).mp hD
  have hl : lv_has ls 4 [(3, .int (nI 0)), (0, .ref mo), (1, .int (nI ak)), (2, .int 0)] := hl
  refine k_loop (ι := Nat) (fun (i : Nat) H9 locs9 ls9 => (i ≤ 127) ∧ va_P D vwCl [(mo, .inr (8, [.ref ms, .int sv, .ref mb, .int ty, .int th, .ref mk, .int ml, .ref mfd, .int mf, .int sp, .int on, .int tw])), (ms, .inl (K, 889, .inl (cpB sf ak 0 i)))] H9 ∧ va_D A [(mo, .inr (8, [.ref ms, .int sv, .ref mb, .int ty, .int th, .ref mk, .int ml, .ref mfd, .int mf, .int sp, .int on, .int tw])), (ms, .inl (K, 889, .inl (cpB sf ak 0 i)))] ∧ va_S A s.heap H9 locs9 ∧ lv_has ls9 4 [(3, .int (nI i)), (0, .ref mo), (1, .int (nI ak)), (2, .int 0)]) (fun (i : Nat) => 127 - i) ?_ (0) ⟨(Nat.zero_le _), hP.sub [0, 1] rfl, hD.sub [0, 1] (by decide) rfl, hS, lv_sub hl [0, 1, 2, 3] rfl⟩
  intro x9 H locs ls hF9 ih9
  obtain ⟨i, hv9⟩ : ∃ z, z = x9 := ⟨_, rfl⟩
  subst hv9
  obtain ⟨hi, hP, hD, hS, hl⟩ := hF9
  try dsimp only at ih9
  have hP : va_P D vwCl [(mo, .inr (8, [.ref ms, .int sv, .ref mb, .int ty, .int th, .ref mk, .int ml, .ref mfd, .int mf, .int sp, .int on, .int tw])), (ms, .inl (K, 889, .inl (cpB sf ak 0 i)))] H := hP
  have hD : va_D A [(mo, .inr (8, [.ref ms, .int sv, .ref mb, .int ty, .int th, .ref mk, .int ml, .ref mfd, .int mf, .int sp, .int on, .int tw])), (ms, .inl (K, 889, .inl (cpB sf ak 0 i)))] := hD
  have hl : lv_has ls 4 [(3, .int (nI i)), (0, .ref mo), (1, .int (nI ak)), (2, .int 0)] := hl
  refine lv_iload_n hx hb dX8_copies_2 rfl (lv_at hl 0 rfl) ?_
  refine lv_bipush (v := 127) hx hb dX8_copies_3 (by decide) ?_
  refine lv_icmp_ge (tgt := 36) hx hb dX8_copies_5 (by decide) (fun c_2 => ?_) (fun c_2 => ?_)
  · have hc9 := c_2
    obtain rfl : 127 = i := by rcases Nat.lt_or_ge i 127 with q9 | q9; exact absurd c_2 (nI_ge (b := 127) q9 (by omega)); omega
    have hP9 : va_P D vwCl [(mo, .inr (8, [.ref ms, .int sv, .ref mb, .int ty, .int th, .ref mk, .int ml, .ref mfd, .int mf, .int sp, .int on, .int tw])), (ms, .inl (K, 889, .inl (cpB sf ak 0 127)))] H := hP.sub [0, 1] rfl
    have hD9 : va_D A [(mo, .inr (8, [.ref ms, .int sv, .ref mb, .int ty, .int th, .ref mk, .int ml, .ref mfd, .int mf, .int sp, .int on, .int tw])), (ms, .inl (K, 889, .inl (cpB sf ak 0 127)))] := hD.sub [0, 1] (by decide) rfl
    have hK9 : va_K D vwCl [] s := hK.sub [] rfl
    exact W.vret hx hb hr (fun t ht9 hW9 => ⟨⟨(), rfl, by first | rfl | trivial | (simp only [hi, c_2, if_true, if_false, reduceIte, and_self]; done) | simp_all, ⟨by rw [ht9]; exact hP9, va_K.moved hW9.alike hK9, hD9⟩⟩, hS.F ht9⟩) hS.2.2 dX8_copies_36
  · have hc9 := c_2
    have hik : i + 1 ≤ 127 := by rcases Nat.lt_or_ge i 127 with q9 | q9; exact q9; exact absurd (nI_le (a := 127) q9 (by omega)) c_2
    refine lv_aload_n hx hb dX8_copies_8 rfl (lv_at hl 1 rfl) ?_
    refine va_get (D := D) (ci := 8) (v := .ref ms) (C := RX8) (T := TX8) (N := 12) hx hb ht inA_X8 hown hK hP 0 rfl rfl 0 (by decide) (ht _ lf_X8_7) (fun _ h9 => h9) rfl dX8_copies_9 ?_
    refine lv_bipush (v := 127) hx hb dX8_copies_12 (by decide) ?_
    refine lv_iload_n hx hb dX8_copies_14 rfl (lv_at hl 3 rfl) ?_
    refine lv_imul hx hb dX8_copies_15 ?_
    refine k_nrm (y := 0) (by decide) ?_
    refine lv_iload_n hx hb dX8_copies_16 rfl (lv_at hl 0 rfl) ?_
    refine lv_iadd hx hb dX8_copies_17 ?_
    refine k_nrm (y := (nI (127 * 0 + i))) (nI_add (127 * 0) i) ?_
    refine lv_aload_n hx hb dX8_copies_18 rfl (lv_at hl 1 rfl) ?_
    refine va_get (D := D) (ci := 8) (v := .ref ms) (C := RX8) (T := TX8) (N := 12) hx hb ht inA_X8 hown hK hP 0 rfl rfl 0 (by decide) (ht _ lf_X8_7) (fun _ h9 => h9) rfl dX8_copies_19 ?_
    refine lv_bipush (v := 127) hx hb dX8_copies_22 (by decide) ?_
    refine lv_iload_n hx hb dX8_copies_24 rfl (lv_at hl 2 rfl) ?_
    refine lv_imul hx hb dX8_copies_25 ?_
    refine k_nrm (y := (nI (127 * ak))) (pk_mul 127 ak) ?_
    refine lv_iload_n hx hb dX8_copies_26 rfl (lv_at hl 0 rfl) ?_
    refine lv_iadd hx hb dX8_copies_27 ?_
    refine k_nrm (y := (nI (127 * ak + i))) (nI_add (127 * ak) i) ?_
    refine va_iald hx hb hK hP 1 0 rfl rfl (vp_in_nI (by omega) (by decide)) dX8_copies_28 ?_
    refine k_nrm (y := (sf (127 * ak + i))) (by rw [nI_clamp (by omega)]; exact cpB_rd (by omega)) ?_
    refine va_iast hx hb hK hP hD hS 1 0 rfl rfl (vp_in_nI (by omega) (by decide)) dX8_copies_29 (fun H locs hP hD hS => ?_)
    have hP : va_P D vwCl [(mo, .inr (8, [.ref ms, .int sv, .ref mb, .int ty, .int th, .ref mk, .int ml, .ref mfd, .int mf, .int sp, .int on, .int tw])), (ms, .inl (K, 889, .inl (upd (cpB sf ak 0 i) ((nI (127 * 0 + i)).toNatClampNeg) (sf (127 * ak + i)))))] H := hP
    have hD : va_D A [(mo, .inr (8, [.ref ms, .int sv, .ref mb, .int ty, .int th, .ref mk, .int ml, .ref mfd, .int mf, .int sp, .int on, .int tw])), (ms, .inl (K, 889, .inl (upd (cpB sf ak 0 i) ((nI (127 * 0 + i)).toNatClampNeg) (sf (127 * ak + i)))))] := hD
    have hf9 : upd (cpB sf ak 0 i) ((nI (127 * 0 + i)).toNatClampNeg) (sf (127 * ak + i)) = (cpB sf ak 0 (i + 1)) := by rw [nI_clamp (by omega)]; exact cpB_s (by omega)
    rw [hf9] at hP hD
    have hP : va_P D vwCl [(mo, .inr (8, [.ref ms, .int sv, .ref mb, .int ty, .int th, .ref mk, .int ml, .ref mfd, .int mf, .int sp, .int on, .int tw])), (ms, .inl (K, 889, .inl (cpB sf ak 0 (i + 1))))] H := hP
    have hD : va_D A [(mo, .inr (8, [.ref ms, .int sv, .ref mb, .int ty, .int th, .ref mk, .int ml, .ref mfd, .int mf, .int sp, .int on, .int tw])), (ms, .inl (K, 889, .inl (cpB sf ak 0 (i + 1))))] := hD
    obtain ⟨x_3, ex_3⟩ : ∃ z : Int32, z = (nI i) + 1 := ⟨_, rfl⟩
    refine lv_iinc (v := x_3) (lv' := [(3, .int x_3), (0, .ref mo), (1, .int (nI ak)), (2, .int 0)]) hx hb dX8_copies_30 hl (k := 0) rfl (by rw [ex_3]; rfl) (by decide) rfl (fun ls hl => ?_)
    refine lv_goto (tgt := 2) hx hb dX8_copies_33 (by decide) ?_
    have he9 : x_3 = (nI (i + 1)) := by rw [ex_3]; exact nI_1 i
    rw [he9] at hl
    have hl : lv_has ls 4 [(3, .int (nI (i + 1))), (0, .ref mo), (1, .int (nI ak)), (2, .int 0)] := hl
    exact ih9 (i + 1) H locs ls (by omega) ⟨hik, hP.sub [0, 1] rfl, hD.sub [0, 1] (by decide) rfl, hS, lv_sub hl [0, 1, 2, 3] rfl⟩
set_option maxHeartbeats 4000000 in
set_option maxRecDepth 100000 in
theorem c_M_saves (l : Launch) (D : va_G) (mo : Nat) (ms : Nat) (kp : Nat) (mb : Nat) (ty : Int32) (th : Int32) (mk : Nat) (ml : Int32) (mfd : Nat) (mf : Int32) (sp : Int32) (on : Int32) (tw : Int32) (K : ClassId) (sf : Nat → Int32) (hkp : kp ≤ 6) (sz : Nat) : k_Mv (S := Unit) l D yX8_saves cX8_saves 2 none 1 0 0 23 [.ref mo] [(mo, .inr (8, [.ref ms, .int (nI kp), .ref mb, .int ty, .int th, .ref mk, .int ml, .ref mfd, .int mf, .int sp, .int on, .int tw])), (ms, .inl (K, 889, .inl sf))] [(K, .int)] (fun (_ : Unit) => True) (fun _ => [(mo, .inr (8, [.ref ms, .int (nI (min (kp + 1) 6)), .ref mb, .int ty, .int th, .ref mk, .int ml, .ref mfd, .int mf, .int sp, .int on, .int tw])), (ms, .inl (K, 889, .inl (svM kp sf)))]) (fun _ => []) sz := by
  refine Met.ofW (cc := cX8_saves) (maxL := 2) (ret := none) (by decide) rfl ?_
  intro p e s m args below meth c s₁ B hml hv
  obtain ⟨rfl, hsz, hP, hK, hD0, hG⟩ := hv
  have hx := B.exec
  have hb := B.bytes
  have hr := B.returns
  have ht : ∀ v9 ∈ wsA, v9.before ([.ref mo] : List Value).toArray s = true := fun v9 h9 => atoms_spec (ws := k_ws yX8_saves cX8_saves 2 none) B.pre v9 (List.mem_cons_of_mem _ h9)
  have hown : s.vm.findClass RX8 = some m.cls := findClass_of_methodNamed B.named
  have S0 : k_C p s m ([.ref mo] : List Value).toArray c cX8_saves 2 RX8 := ⟨hx, hb, hml, hown, ht⟩
  have hlocks := B.notSynchronized
  subst hsz
  have hD := hD0.self (sz := s.heap.size)
  generalize hAe : va_A [(mo, .inr (8, [.ref ms, .int (nI kp), .ref mb, .int ty, .int th, .ref mk, .int ml, .ref mfd, .int mf, .int sp, .int on, .int tw])), (ms, .inl (K, 889, .inl sf))] s.heap.size = A at hD hG ⊢
  have hA : ∀ q : Nat, s.heap.size ≤ q → A q := fun q h => by rw [← hAe]; exact Or.inr h
  have hS : va_S A s.heap s.heap [] := va_S.rf
  have hl := lv_entry ([.ref mo]) (n := 2) (Nat.le_of_ble_eq_true rfl)
  rw [lg_entry_eq]
  generalize (lg_sl ([.ref mo]) ++ List.replicate (2 - (lg_sl ([.ref mo])).length) Slot.unset).toArray = ls at hl ⊢
  have hl : lv_has ls 2 [(0, .ref mo)] := hl
  have hP : va_P D vwCl [(mo, .inr (8, [.ref ms, .int (nI kp), .ref mb, .int ty, .int th, .ref mk, .int ml, .ref mfd, .int mf, .int sp, .int on, .int tw])), (ms, .inl (K, 889, .inl sf))] s.heap := hP
  refine lv_aload_n hx hb dX8_saves_0 rfl (lv_at hl 0 rfl) ?_
  refine va_get (D := D) (ci := 8) (v := .int (nI kp)) (C := RX8) (T := TX8) (N := 12) hx hb ht inA_X8 hown hK hP 0 rfl rfl 1 (by decide) (ht _ lf_X8_27) (fun _ h9 => h9) rfl dX8_saves_1 ?_
  refine lv_bipush (v := 6) hx hb dX8_saves_4 (by decide) ?_
  refine lv_icmp_ne (tgt := 41) hx hb dX8_saves_6 (by decide) (fun c_1 => ?_) (fun c_1 => ?_)
  · have hc9 := c_1
    have hk5 : ¬ kp = 6 := fun q9 => c_1 (by rw [q9]; rfl)
    refine lv_aload_n hx hb dX8_saves_41 rfl (lv_at hl 0 rfl) ?_
    refine lv_dup hx hb dX8_saves_42 rfl ?_
    refine va_get (D := D) (ci := 8) (v := .int (nI kp)) (C := RX8) (T := TX8) (N := 12) hx hb ht inA_X8 hown hK hP 0 rfl rfl 1 (by decide) (ht _ lf_X8_27) (fun _ h9 => h9) rfl dX8_saves_43 ?_
    refine lv_iconst (v := 1) hx hb dX8_saves_46 (by decide) ?_
    refine lv_iadd hx hb dX8_saves_47 ?_
    refine k_nrm (y := (nI (kp + 1))) (nI_1 kp) ?_
    refine va_put (D := D) (ci := 8) (v := .int (nI (kp + 1))) (ty := .int) (C := RX8) (T := TX8) (N := 12) hx hb ht inA_X8 tyX8 tyX8_ok nmX8 hown hK hP hD hS 0 rfl rfl 1 (by decide) (ht _ lf_X8_27) (fun _ h9 => h9) rfl (tyX8_ok 1 (by decide)) rfl rfl (Nat.le_of_ble_eq_true rfl) dX8_saves_48 (fun H locs hP hD hS => ?_)
    have hP : va_P D vwCl [(mo, .inr (8, [.ref ms, .int (nI (kp + 1)), .ref mb, .int ty, .int th, .ref mk, .int ml, .ref mfd, .int mf, .int sp, .int on, .int tw])), (ms, .inl (K, 889, .inl sf))] H := hP
    have hD : va_D A [(mo, .inr (8, [.ref ms, .int (nI (kp + 1)), .ref mb, .int ty, .int th, .ref mk, .int ml, .ref mfd, .int mf, .int sp, .int on, .int tw])), (ms, .inl (K, 889, .inl sf))] := hD
    refine lv_aload_n hx hb dX8_saves_51 rfl (lv_at hl 0 rfl) ?_
    refine lv_iconst (v := 0) hx hb dX8_saves_52 (by decide) ?_
    refine lv_aload_n hx hb dX8_saves_53 rfl (lv_at hl 0 rfl) ?_
    refine va_get (D := D) (ci := 8) (v := .int (nI (kp + 1))) (C := RX8) (T := TX8) (N := 12) hx hb ht inA_X8 hown hK hP 0 rfl rfl 1 (by decide) (ht _ lf_X8_27) (fun _ h9 => h9) rfl dX8_saves_54 ?_
    have ct := k_cut_of (wc := [(mo, .inr (8, [.ref ms, .int (nI (kp + 1)), .ref mb, .int ty, .int th, .ref mk, .int ml, .ref mfd, .int mf, .int sp, .int on, .int tw])), (ms, .inl (K, 889, .inl sf))]) (wr := []) (tc := [(K, .int)]) hG hS hA hK hP hD [0, 1] [] [0] rfl rfl (by decide) (by decide) (by decide) rfl
    refine k_endv (As := [.ref mo, .int 0, .int (nI (kp + 1))]) ct (k_runV (As := [.int 0, .int (nI (kp + 1))]) (rest := []) S0 Lv_X8_30 rfl (ci := 8) (q0 := 0) rfl rfl ct (c_M_copies_sv l D mo ms (nI (kp + 1)) mb ty th mk ml mfd mf sp on tw K sf (kp + 1) (by first | assumption | omega) H.size) hl.1 rfl (Nat.le_of_ble_eq_true rfl) rfl dX8_saves_57 ⟨⟨Nat.le_of_ble_eq_true rfl, Nat.le_of_ble_eq_true rfl⟩, Nat.le_of_ble_eq_true rfl, Nat.le_of_ble_eq_true rfl⟩) rfl rfl (fun _ _ H locs hw_3 hP hD hK hS => ?_)
    have hK : va_K D vwCl [(K, .int)] s := hK
    have hP : va_P D vwCl [(mo, .inr (8, [.ref ms, .int (nI (kp + 1)), .ref mb, .int ty, .int th, .ref mk, .int ml, .ref mfd, .int mf, .int sp, .int on, .int tw])), (ms, .inl (K, 889, .inl (cpB sf 0 (kp + 1) 127)))] H := hP
    have hD : va_D A [(mo, .inr (8, [.ref ms, .int (nI (kp + 1)), .ref mb, .int ty, .int th, .ref mk, .int ml, .ref mfd, .int mf, .int sp, .int on, .int tw])), (ms, .inl (K, 889, .inl (cpB sf 0 (kp + 1) 127)))] := hD
    have hf_4 : ((cpB sf 0 (kp + 1) 127) : Nat → Int32) = (svM kp sf) := (if_neg hk5).symm
    have hP : va_P D vwCl [(mo, .inr (8, [.ref ms, .int (nI (kp + 1)), .ref mb, .int ty, .int th, .ref mk, .int ml, .ref mfd, .int mf, .int sp, .int on, .int tw])), (ms, .inl (K, 889, .inl (svM kp sf)))] H := (congrArg (fun z9 : Nat → Int32 => va_P D vwCl [(mo, .inr (8, [.ref ms, .int (nI (kp + 1)), .ref mb, .int ty, .int th, .ref mk, .int ml, .ref mfd, .int mf, .int sp, .int on, .int tw])), (ms, .inl (K, 889, .inl z9))] H) hf_4).mp hP
    have hD : va_D A [(mo, .inr (8, [.ref ms, .int (nI (kp + 1)), .ref mb, .int ty, .int th, .ref mk, .int ml, .ref mfd, .int mf, .int sp, .int on, .int tw])), (ms, .inl (K, 889, .inl (svM kp sf)))] := (congrArg (fun z9 : Nat → Int32 => va_D A [(mo, .inr (8, [.ref ms, .int (nI (kp + 1)), .ref mb, .int ty, .int th, .ref mk, .int ml, .ref mfd, .int mf, .int sp, .int on, .int tw])), (ms, .inl (K, 889, .inl z9))]) hf_4).mp hD
    have hf_5 : ((nI (kp + 1)) : Int32) = (nI (min (kp + 1) 6)) := by rw [show min (kp + 1) 6 = kp + 1 from by omega]
    have hP : va_P D vwCl [(mo, .inr (8, [.ref ms, .int (nI (min (kp + 1) 6)), .ref mb, .int ty, .int th, .ref mk, .int ml, .ref mfd, .int mf, .int sp, .int on, .int tw])), (ms, .inl (K, 889, .inl (svM kp sf)))] H := (congrArg (fun z9 : Int32 => va_P D vwCl [(mo, .inr (8, [.ref ms, .int z9, .ref mb, .int ty, .int th, .ref mk, .int ml, .ref mfd, .int mf, .int sp, .int on, .int tw])), (ms, .inl (K, 889, .inl (svM kp sf)))] H) hf_5).mp hP
    have hD : va_D A [(mo, .inr (8, [.ref ms, .int (nI (min (kp + 1) 6)), .ref mb, .int ty, .int th, .ref mk, .int ml, .ref mfd, .int mf, .int sp, .int on, .int tw])), (ms, .inl (K, 889, .inl (svM kp sf)))] := (congrArg (fun z9 : Int32 => va_D A [(mo, .inr (8, [.ref ms, .int z9, .ref mb, .int ty, .int th, .ref mk, .int ml, .ref mfd, .int mf, .int sp, .int on, .int tw])), (ms, .inl (K, 889, .inl (svM kp sf)))]) hf_5).mp hD
    have hP9 : va_P D vwCl [(mo, .inr (8, [.ref ms, .int (nI (min (kp + 1) 6)), .ref mb, .int ty, .int th, .ref mk, .int ml, .ref mfd, .int mf, .int sp, .int on, .int tw])), (ms, .inl (K, 889, .inl (svM kp sf)))] H := hP.sub [0, 1] rfl
    have hD9 : va_D A [(mo, .inr (8, [.ref ms, .int (nI (min (kp + 1) 6)), .ref mb, .int ty, .int th, .ref mk, .int ml, .ref mfd, .int mf, .int sp, .int on, .int tw])), (ms, .inl (K, 889, .inl (svM kp sf)))] := hD.sub [0, 1] (by decide) rfl
    have hK9 : va_K D vwCl [] s := hK.sub [] rfl
    exact W.vret hx hb hr (fun t ht9 hW9 => ⟨⟨(), rfl, by first | rfl | trivial | (simp only [c_1, if_true, if_false, reduceIte, and_self]; done) | simp_all, ⟨by rw [ht9]; exact hP9, va_K.moved hW9.alike hK9, hD9⟩⟩, hS.F ht9⟩) hS.2.2 dX8_saves_60
  · have hc9 := c_1
    refine lv_iconst (v := 1) hx hb dX8_saves_9 (by decide) ?_
    refine lv_istore_n (lv' := [(1, .int 1), (0, .ref mo)]) hx hb dX8_saves_10 rfl hl (by decide) rfl (fun ls hl => ?_)
    refine lv_iload_n hx hb dX8_saves_11 rfl (lv_at hl 0 rfl) ?_
    refine lv_bipush (v := 6) hx hb dX8_saves_12 (by decide) ?_
    refine lv_icmp_ge (tgt := 31) hx hb dX8_saves_14 (by decide) (fun c9 => absurd c9 (by decide)) (fun _ => ?_)
    have hk6 : kp = 6 := (nI_eq (a := kp) (b := 6) (by omega) (by decide)).mp c_1
    refine lv_aload_n hx hb dX8_saves_17 rfl (lv_at hl 1 rfl) ?_
    refine lv_iload_n hx hb dX8_saves_18 rfl (lv_at hl 0 rfl) ?_
    refine lv_iconst (v := 1) hx hb dX8_saves_19 (by decide) ?_
    refine lv_iadd hx hb dX8_saves_20 ?_
    refine k_nrm (y := 2) (by decide) ?_
    refine lv_iload_n hx hb dX8_saves_21 rfl (lv_at hl 0 rfl) ?_
    have ct := k_cut_of (wc := [(mo, .inr (8, [.ref ms, .int (nI kp), .ref mb, .int ty, .int th, .ref mk, .int ml, .ref mfd, .int mf, .int sp, .int on, .int tw])), (ms, .inl (K, 889, .inl sf))]) (wr := []) (tc := [(K, .int)]) hG hS hA hK hP hD [0, 1] [] [0] rfl rfl (by decide) (by decide) (by decide) rfl
    refine k_endv (As := [.ref mo, .int 2, .int 1]) ct (k_runV (As := [.int 2, .int 1]) (rest := []) S0 Lv_X8_30 rfl (ci := 8) (q0 := 0) rfl rfl ct (c_M_copies_1 l D mo ms (nI kp) mb ty th mk ml mfd mf sp on tw K sf s.heap.size) hl.1 rfl (Nat.le_of_ble_eq_true rfl) rfl dX8_saves_22 ⟨⟨Nat.le_of_ble_eq_true rfl, Nat.le_of_ble_eq_true rfl⟩, Nat.le_of_ble_eq_true rfl, Nat.le_of_ble_eq_true rfl⟩) rfl rfl (fun _ _ H locs hw_7 hP hD hK hS => ?_)
    have hK : va_K D vwCl [(K, .int)] s := hK
    have hP : va_P D vwCl [(mo, .inr (8, [.ref ms, .int (nI kp), .ref mb, .int ty, .int th, .ref mk, .int ml, .ref mfd, .int mf, .int sp, .int on, .int tw])), (ms, .inl (K, 889, .inl (cpB sf 2 1 127)))] H := hP
    have hD : va_D A [(mo, .inr (8, [.ref ms, .int (nI kp), .ref mb, .int ty, .int th, .ref mk, .int ml, .ref mfd, .int mf, .int sp, .int on, .int tw])), (ms, .inl (K, 889, .inl (cpB sf 2 1 127)))] := hD
    refine lv_iinc (v := 2) (lv' := [(1, .int 2), (0, .ref mo)]) hx hb dX8_saves_25 hl (k := 0) rfl (by decide) (by decide) rfl (fun ls hl => ?_)
    refine lv_goto (tgt := 11) hx hb dX8_saves_28 (by decide) ?_
    refine lv_iload_n hx hb dX8_saves_11 rfl (lv_at hl 0 rfl) ?_
    refine lv_bipush (v := 6) hx hb dX8_saves_12 (by decide) ?_
    refine lv_icmp_ge (tgt := 31) hx hb dX8_saves_14 (by decide) (fun c9 => absurd c9 (by decide)) (fun _ => ?_)
    refine lv_aload_n hx hb dX8_saves_17 rfl (lv_at hl 1 rfl) ?_
    refine lv_iload_n hx hb dX8_saves_18 rfl (lv_at hl 0 rfl) ?_
    refine lv_iconst (v := 1) hx hb dX8_saves_19 (by decide) ?_
    refine lv_iadd hx hb dX8_saves_20 ?_
    refine k_nrm (y := 3) (by decide) ?_
    refine lv_iload_n hx hb dX8_saves_21 rfl (lv_at hl 0 rfl) ?_
    have ct := k_cut_of (wc := [(mo, .inr (8, [.ref ms, .int (nI kp), .ref mb, .int ty, .int th, .ref mk, .int ml, .ref mfd, .int mf, .int sp, .int on, .int tw])), (ms, .inl (K, 889, .inl (cpB sf 2 1 127)))]) (wr := []) (tc := [(K, .int)]) hG hS hA hK hP hD [0, 1] [] [0] rfl rfl (by decide) (by decide) (by decide) rfl
    refine k_endv (As := [.ref mo, .int 3, .int 2]) ct (k_runV (As := [.int 3, .int 2]) (rest := []) S0 Lv_X8_30 rfl (ci := 8) (q0 := 0) rfl rfl ct (c_M_copies_2 l D mo ms (nI kp) mb ty th mk ml mfd mf sp on tw K (cpB sf 2 1 127) H.size) hl.1 rfl (Nat.le_of_ble_eq_true rfl) rfl dX8_saves_22 ⟨⟨Nat.le_of_ble_eq_true rfl, Nat.le_of_ble_eq_true rfl⟩, Nat.le_of_ble_eq_true rfl, Nat.le_of_ble_eq_true rfl⟩) rfl rfl (fun _ _ H locs hw_9 hP hD hK hS => ?_)
    have hK : va_K D vwCl [(K, .int)] s := hK
    have hP : va_P D vwCl [(mo, .inr (8, [.ref ms, .int (nI kp), .ref mb, .int ty, .int th, .ref mk, .int ml, .ref mfd, .int mf, .int sp, .int on, .int tw])), (ms, .inl (K, 889, .inl (cpB (cpB sf 2 1 127) 3 2 127)))] H := hP
    have hD : va_D A [(mo, .inr (8, [.ref ms, .int (nI kp), .ref mb, .int ty, .int th, .ref mk, .int ml, .ref mfd, .int mf, .int sp, .int on, .int tw])), (ms, .inl (K, 889, .inl (cpB (cpB sf 2 1 127) 3 2 127)))] := hD
    refine lv_iinc (v := 3) (lv' := [(1, .int 3), (0, .ref mo)]) hx hb dX8_saves_25 hl (k := 0) rfl (by decide) (by decide) rfl (fun ls hl => ?_)
    refine lv_goto (tgt := 11) hx hb dX8_saves_28 (by decide) ?_
    refine lv_iload_n hx hb dX8_saves_11 rfl (lv_at hl 0 rfl) ?_
    refine lv_bipush (v := 6) hx hb dX8_saves_12 (by decide) ?_
    refine lv_icmp_ge (tgt := 31) hx hb dX8_saves_14 (by decide) (fun c9 => absurd c9 (by decide)) (fun _ => ?_)
    refine lv_aload_n hx hb dX8_saves_17 rfl (lv_at hl 1 rfl) ?_
    refine lv_iload_n hx hb dX8_saves_18 rfl (lv_at hl 0 rfl) ?_
    refine lv_iconst (v := 1) hx hb dX8_saves_19 (by decide) ?_
    refine lv_iadd hx hb dX8_saves_20 ?_
    refine k_nrm (y := 4) (by decide) ?_
    refine lv_iload_n hx hb dX8_saves_21 rfl (lv_at hl 0 rfl) ?_
    have ct := k_cut_of (wc := [(mo, .inr (8, [.ref ms, .int (nI kp), .ref mb, .int ty, .int th, .ref mk, .int ml, .ref mfd, .int mf, .int sp, .int on, .int tw])), (ms, .inl (K, 889, .inl (cpB (cpB sf 2 1 127) 3 2 127)))]) (wr := []) (tc := [(K, .int)]) hG hS hA hK hP hD [0, 1] [] [0] rfl rfl (by decide) (by decide) (by decide) rfl
    refine k_endv (As := [.ref mo, .int 4, .int 3]) ct (k_runV (As := [.int 4, .int 3]) (rest := []) S0 Lv_X8_30 rfl (ci := 8) (q0 := 0) rfl rfl ct (c_M_copies_3 l D mo ms (nI kp) mb ty th mk ml mfd mf sp on tw K (cpB (cpB sf 2 1 127) 3 2 127) H.size) hl.1 rfl (Nat.le_of_ble_eq_true rfl) rfl dX8_saves_22 ⟨⟨Nat.le_of_ble_eq_true rfl, Nat.le_of_ble_eq_true rfl⟩, Nat.le_of_ble_eq_true rfl, Nat.le_of_ble_eq_true rfl⟩) rfl rfl (fun _ _ H locs hw_11 hP hD hK hS => ?_)
    have hK : va_K D vwCl [(K, .int)] s := hK
    have hP : va_P D vwCl [(mo, .inr (8, [.ref ms, .int (nI kp), .ref mb, .int ty, .int th, .ref mk, .int ml, .ref mfd, .int mf, .int sp, .int on, .int tw])), (ms, .inl (K, 889, .inl (cpB (cpB (cpB sf 2 1 127) 3 2 127) 4 3 127)))] H := hP
    have hD : va_D A [(mo, .inr (8, [.ref ms, .int (nI kp), .ref mb, .int ty, .int th, .ref mk, .int ml, .ref mfd, .int mf, .int sp, .int on, .int tw])), (ms, .inl (K, 889, .inl (cpB (cpB (cpB sf 2 1 127) 3 2 127) 4 3 127)))] := hD
    refine lv_iinc (v := 4) (lv' := [(1, .int 4), (0, .ref mo)]) hx hb dX8_saves_25 hl (k := 0) rfl (by decide) (by decide) rfl (fun ls hl => ?_)
    refine lv_goto (tgt := 11) hx hb dX8_saves_28 (by decide) ?_
    refine lv_iload_n hx hb dX8_saves_11 rfl (lv_at hl 0 rfl) ?_
    refine lv_bipush (v := 6) hx hb dX8_saves_12 (by decide) ?_
    refine lv_icmp_ge (tgt := 31) hx hb dX8_saves_14 (by decide) (fun c9 => absurd c9 (by decide)) (fun _ => ?_)
    refine lv_aload_n hx hb dX8_saves_17 rfl (lv_at hl 1 rfl) ?_
    refine lv_iload_n hx hb dX8_saves_18 rfl (lv_at hl 0 rfl) ?_
    refine lv_iconst (v := 1) hx hb dX8_saves_19 (by decide) ?_
    refine lv_iadd hx hb dX8_saves_20 ?_
    refine k_nrm (y := 5) (by decide) ?_
    refine lv_iload_n hx hb dX8_saves_21 rfl (lv_at hl 0 rfl) ?_
    have ct := k_cut_of (wc := [(mo, .inr (8, [.ref ms, .int (nI kp), .ref mb, .int ty, .int th, .ref mk, .int ml, .ref mfd, .int mf, .int sp, .int on, .int tw])), (ms, .inl (K, 889, .inl (cpB (cpB (cpB sf 2 1 127) 3 2 127) 4 3 127)))]) (wr := []) (tc := [(K, .int)]) hG hS hA hK hP hD [0, 1] [] [0] rfl rfl (by decide) (by decide) (by decide) rfl
    refine k_endv (As := [.ref mo, .int 5, .int 4]) ct (k_runV (As := [.int 5, .int 4]) (rest := []) S0 Lv_X8_30 rfl (ci := 8) (q0 := 0) rfl rfl ct (c_M_copies_4 l D mo ms (nI kp) mb ty th mk ml mfd mf sp on tw K (cpB (cpB (cpB sf 2 1 127) 3 2 127) 4 3 127) H.size) hl.1 rfl (Nat.le_of_ble_eq_true rfl) rfl dX8_saves_22 ⟨⟨Nat.le_of_ble_eq_true rfl, Nat.le_of_ble_eq_true rfl⟩, Nat.le_of_ble_eq_true rfl, Nat.le_of_ble_eq_true rfl⟩) rfl rfl (fun _ _ H locs hw_13 hP hD hK hS => ?_)
    have hK : va_K D vwCl [(K, .int)] s := hK
    have hP : va_P D vwCl [(mo, .inr (8, [.ref ms, .int (nI kp), .ref mb, .int ty, .int th, .ref mk, .int ml, .ref mfd, .int mf, .int sp, .int on, .int tw])), (ms, .inl (K, 889, .inl (cpB (cpB (cpB (cpB sf 2 1 127) 3 2 127) 4 3 127) 5 4 127)))] H := hP
    have hD : va_D A [(mo, .inr (8, [.ref ms, .int (nI kp), .ref mb, .int ty, .int th, .ref mk, .int ml, .ref mfd, .int mf, .int sp, .int on, .int tw])), (ms, .inl (K, 889, .inl (cpB (cpB (cpB (cpB sf 2 1 127) 3 2 127) 4 3 127) 5 4 127)))] := hD
    refine lv_iinc (v := 5) (lv' := [(1, .int 5), (0, .ref mo)]) hx hb dX8_saves_25 hl (k := 0) rfl (by decide) (by decide) rfl (fun ls hl => ?_)
    refine lv_goto (tgt := 11) hx hb dX8_saves_28 (by decide) ?_
    refine lv_iload_n hx hb dX8_saves_11 rfl (lv_at hl 0 rfl) ?_
    refine lv_bipush (v := 6) hx hb dX8_saves_12 (by decide) ?_
    refine lv_icmp_ge (tgt := 31) hx hb dX8_saves_14 (by decide) (fun c9 => absurd c9 (by decide)) (fun _ => ?_)
    refine lv_aload_n hx hb dX8_saves_17 rfl (lv_at hl 1 rfl) ?_
    refine lv_iload_n hx hb dX8_saves_18 rfl (lv_at hl 0 rfl) ?_
    refine lv_iconst (v := 1) hx hb dX8_saves_19 (by decide) ?_
    refine lv_iadd hx hb dX8_saves_20 ?_
    refine k_nrm (y := 6) (by decide) ?_
    refine lv_iload_n hx hb dX8_saves_21 rfl (lv_at hl 0 rfl) ?_
    have ct := k_cut_of (wc := [(mo, .inr (8, [.ref ms, .int (nI kp), .ref mb, .int ty, .int th, .ref mk, .int ml, .ref mfd, .int mf, .int sp, .int on, .int tw])), (ms, .inl (K, 889, .inl (cpB (cpB (cpB (cpB sf 2 1 127) 3 2 127) 4 3 127) 5 4 127)))]) (wr := []) (tc := [(K, .int)]) hG hS hA hK hP hD [0, 1] [] [0] rfl rfl (by decide) (by decide) (by decide) rfl
    refine k_endv (As := [.ref mo, .int 6, .int 5]) ct (k_runV (As := [.int 6, .int 5]) (rest := []) S0 Lv_X8_30 rfl (ci := 8) (q0 := 0) rfl rfl ct (c_M_copies_5 l D mo ms (nI kp) mb ty th mk ml mfd mf sp on tw K (cpB (cpB (cpB (cpB sf 2 1 127) 3 2 127) 4 3 127) 5 4 127) H.size) hl.1 rfl (Nat.le_of_ble_eq_true rfl) rfl dX8_saves_22 ⟨⟨Nat.le_of_ble_eq_true rfl, Nat.le_of_ble_eq_true rfl⟩, Nat.le_of_ble_eq_true rfl, Nat.le_of_ble_eq_true rfl⟩) rfl rfl (fun _ _ H locs hw_15 hP hD hK hS => ?_)
    have hK : va_K D vwCl [(K, .int)] s := hK
    have hP : va_P D vwCl [(mo, .inr (8, [.ref ms, .int (nI kp), .ref mb, .int ty, .int th, .ref mk, .int ml, .ref mfd, .int mf, .int sp, .int on, .int tw])), (ms, .inl (K, 889, .inl (cpB (cpB (cpB (cpB (cpB sf 2 1 127) 3 2 127) 4 3 127) 5 4 127) 6 5 127)))] H := hP
    have hD : va_D A [(mo, .inr (8, [.ref ms, .int (nI kp), .ref mb, .int ty, .int th, .ref mk, .int ml, .ref mfd, .int mf, .int sp, .int on, .int tw])), (ms, .inl (K, 889, .inl (cpB (cpB (cpB (cpB (cpB sf 2 1 127) 3 2 127) 4 3 127) 5 4 127) 6 5 127)))] := hD
    refine lv_iinc (v := 6) (lv' := [(1, .int 6), (0, .ref mo)]) hx hb dX8_saves_25 hl (k := 0) rfl (by decide) (by decide) rfl (fun ls hl => ?_)
    refine lv_goto (tgt := 11) hx hb dX8_saves_28 (by decide) ?_
    refine lv_iload_n hx hb dX8_saves_11 rfl (lv_at hl 0 rfl) ?_
    refine lv_bipush (v := 6) hx hb dX8_saves_12 (by decide) ?_
    refine lv_icmp_ge (tgt := 31) hx hb dX8_saves_14 (by decide) (fun _ => ?_) (fun c9 => absurd (by decide) c9)
    refine lv_aload_n hx hb dX8_saves_31 rfl (lv_at hl 1 rfl) ?_
    refine lv_dup hx hb dX8_saves_32 rfl ?_
    refine va_get (D := D) (ci := 8) (v := .int (nI kp)) (C := RX8) (T := TX8) (N := 12) hx hb ht inA_X8 hown hK hP 0 rfl rfl 1 (by decide) (ht _ lf_X8_27) (fun _ h9 => h9) rfl dX8_saves_33 ?_
    refine lv_iconst (v := 1) hx hb dX8_saves_36 (by decide) ?_
    refine lv_isub hx hb dX8_saves_37 ?_
    refine k_nrm (y := (nI 5)) (by rw [hk6]; decide) ?_
    refine va_put (D := D) (ci := 8) (v := .int (nI 5)) (ty := .int) (C := RX8) (T := TX8) (N := 12) hx hb ht inA_X8 tyX8 tyX8_ok nmX8 hown hK hP hD hS 0 rfl rfl 1 (by decide) (ht _ lf_X8_27) (fun _ h9 => h9) rfl (tyX8_ok 1 (by decide)) rfl rfl (Nat.le_of_ble_eq_true rfl) dX8_saves_38 (fun H locs hP hD hS => ?_)
    have hP : va_P D vwCl [(mo, .inr (8, [.ref ms, .int (nI 5), .ref mb, .int ty, .int th, .ref mk, .int ml, .ref mfd, .int mf, .int sp, .int on, .int tw])), (ms, .inl (K, 889, .inl (cpB (cpB (cpB (cpB (cpB sf 2 1 127) 3 2 127) 4 3 127) 5 4 127) 6 5 127)))] H := hP
    have hD : va_D A [(mo, .inr (8, [.ref ms, .int (nI 5), .ref mb, .int ty, .int th, .ref mk, .int ml, .ref mfd, .int mf, .int sp, .int on, .int tw])), (ms, .inl (K, 889, .inl (cpB (cpB (cpB (cpB (cpB sf 2 1 127) 3 2 127) 4 3 127) 5 4 127) 6 5 127)))] := hD
    refine lv_aload_n hx hb dX8_saves_41 rfl (lv_at hl 1 rfl) ?_
    refine lv_dup hx hb dX8_saves_42 rfl ?_
    refine va_get (D := D) (ci := 8) (v := .int (nI 5)) (C := RX8) (T := TX8) (N := 12) hx hb ht inA_X8 hown hK hP 0 rfl rfl 1 (by decide) (ht _ lf_X8_27) (fun _ h9 => h9) rfl dX8_saves_43 ?_
    refine lv_iconst (v := 1) hx hb dX8_saves_46 (by decide) ?_
    refine lv_iadd hx hb dX8_saves_47 ?_
    refine k_nrm (y := (nI 6)) (by decide) ?_
    refine va_put (D := D) (ci := 8) (v := .int (nI 6)) (ty := .int) (C := RX8) (T := TX8) (N := 12) hx hb ht inA_X8 tyX8 tyX8_ok nmX8 hown hK hP hD hS 0 rfl rfl 1 (by decide) (ht _ lf_X8_27) (fun _ h9 => h9) rfl (tyX8_ok 1 (by decide)) rfl rfl (Nat.le_of_ble_eq_true rfl) dX8_saves_48 (fun H locs hP hD hS => ?_)
    have hP : va_P D vwCl [(mo, .inr (8, [.ref ms, .int (nI 6), .ref mb, .int ty, .int th, .ref mk, .int ml, .ref mfd, .int mf, .int sp, .int on, .int tw])), (ms, .inl (K, 889, .inl (cpB (cpB (cpB (cpB (cpB sf 2 1 127) 3 2 127) 4 3 127) 5 4 127) 6 5 127)))] H := hP
    have hD : va_D A [(mo, .inr (8, [.ref ms, .int (nI 6), .ref mb, .int ty, .int th, .ref mk, .int ml, .ref mfd, .int mf, .int sp, .int on, .int tw])), (ms, .inl (K, 889, .inl (cpB (cpB (cpB (cpB (cpB sf 2 1 127) 3 2 127) 4 3 127) 5 4 127) 6 5 127)))] := hD
    refine lv_aload_n hx hb dX8_saves_51 rfl (lv_at hl 1 rfl) ?_
    refine lv_iconst (v := 0) hx hb dX8_saves_52 (by decide) ?_
    refine lv_aload_n hx hb dX8_saves_53 rfl (lv_at hl 1 rfl) ?_
    refine va_get (D := D) (ci := 8) (v := .int (nI 6)) (C := RX8) (T := TX8) (N := 12) hx hb ht inA_X8 hown hK hP 0 rfl rfl 1 (by decide) (ht _ lf_X8_27) (fun _ h9 => h9) rfl dX8_saves_54 ?_
    have ct := k_cut_of (wc := [(mo, .inr (8, [.ref ms, .int (nI 6), .ref mb, .int ty, .int th, .ref mk, .int ml, .ref mfd, .int mf, .int sp, .int on, .int tw])), (ms, .inl (K, 889, .inl (cpB (cpB (cpB (cpB (cpB sf 2 1 127) 3 2 127) 4 3 127) 5 4 127) 6 5 127)))]) (wr := []) (tc := [(K, .int)]) hG hS hA hK hP hD [0, 1] [] [0] rfl rfl (by decide) (by decide) (by decide) rfl
    refine k_endv (As := [.ref mo, .int 0, .int (nI 6)]) ct (k_runV (As := [.int 0, .int (nI 6)]) (rest := []) S0 Lv_X8_30 rfl (ci := 8) (q0 := 0) rfl rfl ct (c_M_copies_sv l D mo ms (nI 6) mb ty th mk ml mfd mf sp on tw K (cpB (cpB (cpB (cpB (cpB sf 2 1 127) 3 2 127) 4 3 127) 5 4 127) 6 5 127) 6 (by first | assumption | omega) H.size) hl.1 rfl (Nat.le_of_ble_eq_true rfl) rfl dX8_saves_57 ⟨⟨Nat.le_of_ble_eq_true rfl, Nat.le_of_ble_eq_true rfl⟩, Nat.le_of_ble_eq_true rfl, Nat.le_of_ble_eq_true rfl⟩) rfl rfl (fun _ _ H locs hw_17 hP hD hK hS => ?_)
    have hK : va_K D vwCl [(K, .int)] s := hK
    have hP : va_P D vwCl [(mo, .inr (8, [.ref ms, .int (nI 6), .ref mb, .int ty, .int th, .ref mk, .int ml, .ref mfd, .int mf, .int sp, .int on, .int tw])), (ms, .inl (K, 889, .inl (cpB (cpB (cpB (cpB (cpB (cpB sf 2 1 127) 3 2 127) 4 3 127) 5 4 127) 6 5 127) 0 6 127)))] H := hP
    have hD : va_D A [(mo, .inr (8, [.ref ms, .int (nI 6), .ref mb, .int ty, .int th, .ref mk, .int ml, .ref mfd, .int mf, .int sp, .int on, .int tw])), (ms, .inl (K, 889, .inl (cpB (cpB (cpB (cpB (cpB (cpB sf 2 1 127) 3 2 127) 4 3 127) 5 4 127) 6 5 127) 0 6 127)))] := hD
    have hf_18 : ((cpB (cpB (cpB (cpB (cpB (cpB sf 2 1 127) 3 2 127) 4 3 127) 5 4 127) 6 5 127) 0 6 127) : Nat → Int32) = (svM kp sf) := (if_pos hk6).symm
    have hP : va_P D vwCl [(mo, .inr (8, [.ref ms, .int (nI 6), .ref mb, .int ty, .int th, .ref mk, .int ml, .ref mfd, .int mf, .int sp, .int on, .int tw])), (ms, .inl (K, 889, .inl (svM kp sf)))] H := (congrArg (fun z9 : Nat → Int32 => va_P D vwCl [(mo, .inr (8, [.ref ms, .int (nI 6), .ref mb, .int ty, .int th, .ref mk, .int ml, .ref mfd, .int mf, .int sp, .int on, .int tw])), (ms, .inl (K, 889, .inl z9))] H) hf_18).mp hP
    have hD : va_D A [(mo, .inr (8, [.ref ms, .int (nI 6), .ref mb, .int ty, .int th, .ref mk, .int ml, .ref mfd, .int mf, .int sp, .int on, .int tw])), (ms, .inl (K, 889, .inl (svM kp sf)))] := (congrArg (fun z9 : Nat → Int32 => va_D A [(mo, .inr (8, [.ref ms, .int (nI 6), .ref mb, .int ty, .int th, .ref mk, .int ml, .ref mfd, .int mf, .int sp, .int on, .int tw])), (ms, .inl (K, 889, .inl z9))]) hf_18).mp hD
    have hf_19 : ((nI 6) : Int32) = (nI (min (kp + 1) 6)) := by rw [show min (kp + 1) 6 = 6 from by omega]
    have hP : va_P D vwCl [(mo, .inr (8, [.ref ms, .int (nI (min (kp + 1) 6)), .ref mb, .int ty, .int th, .ref mk, .int ml, .ref mfd, .int mf, .int sp, .int on, .int tw])), (ms, .inl (K, 889, .inl (svM kp sf)))] H := (congrArg (fun z9 : Int32 => va_P D vwCl [(mo, .inr (8, [.ref ms, .int z9, .ref mb, .int ty, .int th, .ref mk, .int ml, .ref mfd, .int mf, .int sp, .int on, .int tw])), (ms, .inl (K, 889, .inl (svM kp sf)))] H) hf_19).mp hP
    have hD : va_D A [(mo, .inr (8, [.ref ms, .int (nI (min (kp + 1) 6)), .ref mb, .int ty, .int th, .ref mk, .int ml, .ref mfd, .int mf, .int sp, .int on, .int tw])), (ms, .inl (K, 889, .inl (svM kp sf)))] := (congrArg (fun z9 : Int32 => va_D A [(mo, .inr (8, [.ref ms, .int z9, .ref mb, .int ty, .int th, .ref mk, .int ml, .ref mfd, .int mf, .int sp, .int on, .int tw])), (ms, .inl (K, 889, .inl (svM kp sf)))]) hf_19).mp hD
    have hP9 : va_P D vwCl [(mo, .inr (8, [.ref ms, .int (nI (min (kp + 1) 6)), .ref mb, .int ty, .int th, .ref mk, .int ml, .ref mfd, .int mf, .int sp, .int on, .int tw])), (ms, .inl (K, 889, .inl (svM kp sf)))] H := hP.sub [0, 1] rfl
    have hD9 : va_D A [(mo, .inr (8, [.ref ms, .int (nI (min (kp + 1) 6)), .ref mb, .int ty, .int th, .ref mk, .int ml, .ref mfd, .int mf, .int sp, .int on, .int tw])), (ms, .inl (K, 889, .inl (svM kp sf)))] := hD.sub [0, 1] (by decide) rfl
    have hK9 : va_K D vwCl [] s := hK.sub [] rfl
    exact W.vret hx hb hr (fun t ht9 hW9 => ⟨⟨(), rfl, by first | rfl | trivial | (simp only [c_1, if_true, if_false, reduceIte, and_self]; done) | simp_all, ⟨by rw [ht9]; exact hP9, va_K.moved hW9.alike hK9, hD9⟩⟩, hS.F ht9⟩) hS.2.2 dX8_saves_60
