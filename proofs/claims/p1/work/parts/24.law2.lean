
set_option maxHeartbeats 4000000 in
set_option maxRecDepth 100000 in
theorem law_c0 {p : Program} {l : Launch} {e : Env} {s : State} {m : MethodId} {below : List Frame} {meth : Method} {c : Code} {b : Nat} {xs : Nat → Int32} (hst : l.stackTraces = false) (D : va_G) (C0 : lw_At p s m meth c b 4 xs) (hG : k_G (fun q : Nat => s.heap.size ≤ q) s s.heap) {H : Heap} {locs : List Loc} {ls : Array Slot} (h : law_I D s b H locs ls) : W p l e room_1 s m #[Value.ref b] below meth c H locs 124 2208 (lw_Z below #[Value.ref b] s) (F0 m 180 ls []) := by
  have C1 := C0
  obtain ⟨hx, hb, hr, hml, hown, hts, hX, hbl, hlocks, hgv⟩ := C1
  have hown : s.vm.findClass RL = some m.cls := hown
  have ht : ∀ v9 ∈ wsA, v9.before #[Value.ref b] s = true := fun v9 h9 => hts v9 (wsA_tbl h9)
  have S0 : k_C p s m #[Value.ref b] c cL_law 7 RL := ⟨hx, hb, hml, hown, ht⟩
  have hbA : ¬ (fun q : Nat => s.heap.size ≤ q) b := Nat.not_le.mpr hbl
  have hA : ∀ q : Nat, s.heap.size ≤ q → (fun q : Nat => s.heap.size ≤ q) q := fun _ h9 => h9
  obtain ⟨y1, hy1⟩ : ∃ z9 : Int32, z9 = xs 1 := ⟨_, rfl⟩
  obtain ⟨y2, hy2⟩ : ∃ z9 : Int32, z9 = xs 2 := ⟨_, rfl⟩
  obtain ⟨y3, hy3⟩ : ∃ z9 : Int32, z9 = xs 3 := ⟨_, rfl⟩
  have hs0 : (upd (fun _ => 0) 93 4) 0 = 0 := rfl
  have hs51 : (upd (fun _ => 0) 93 4) 51 = 0 := rfl
  have hs93 : (upd (fun _ => 0) 93 4) 93 = 4 := rfl
  have hs94 : (upd (fun _ => 0) 93 4) 94 = 0 := rfl
  have hs125 : (upd (fun _ => 0) 93 4) 125 = 0 := rfl
  have hs126 : (upd (fun _ => 0) 93 4) 126 = 0 := rfl
  obtain ⟨w, st, la, ld, ldA, lz, lzA, me, meA, li, ln, lnA, ll, llA, lc, lcA, hi, ri, zst, zla, zld, zldA, zlz, zlzA, zme, zmeA, zli, zln, zlnA, zll, zllA, zlc, zlcA, re, rd, rdA, rl, rlA, fo, foA, bu, buA, pa, mo, ms, mb, mlk, mfd, out, rf, K, KS, KC, KL, hrf, hK, hP, hD, hS, hl⟩ := h
  have hl : lv_has ls 7 [(4, .int 0), (3, .ref out), (2, .ref mo), (1, .ref w), (0, .ref b)] := hl
  generalize hAe : (fun q : Nat => s.heap.size ≤ q) = A at hG hD hS hA hbA
  have hP : va_P D vwCl [(w, .inr (7, [.ref st, .ref hi, .ref re, .ref fo, .ref bu, .ref pa])), (st, .inr (6, [.ref la, .ref me, .ref li, .int 4, .int 0, .int 0])), (la, .inr (2, [.ref ld, .ref lz])), (ld, .inr (4, [.ref ldA, .int 0])), (ldA, .inl (K, 9, .inl (fun _ => 0))), (lz, .inr (4, [.ref lzA, .int 0])), (lzA, .inl (K, 41, .inl (fun _ => 0))), (me, .inr (4, [.ref meA, .int 0])), (li, .inr (0, [.ref ln, .ref ll, .ref lc])), (ln, .inr (4, [.ref lnA, .int 0])), (ll, .inr (4, [.ref llA, .int 0])), (lc, .inr (4, [.ref lcA, .int 0])), (hi, .inr (5, [.ref ri, .int 0, .int 0])), (ri, .inl (KS, 6, .inr (.inr (.inr (.inr rf))))), (zst, .inr (6, [.ref zla, .ref zme, .ref zli, .int 4, .int 0, .int 0])), (zla, .inr (2, [.ref zld, .ref zlz])), (zld, .inr (4, [.ref zldA, .int 0])), (zlz, .inr (4, [.ref zlzA, .int 0])), (zme, .inr (4, [.ref zmeA, .int 0])), (zli, .inr (0, [.ref zln, .ref zll, .ref zlc])), (zln, .inr (4, [.ref zlnA, .int 0])), (zll, .inr (4, [.ref zllA, .int 0])), (zlc, .inr (4, [.ref zlcA, .int 0])), (mo, .inr (8, [.ref ms, .int 0, .ref mb, .int 0, .int 0, .ref mlk, .int 0, .ref mfd, .int 0, .int 0, .int 0, .int 0])), (ms, .inl (K, 889, .inl (upd (fun _ => 0) 93 4))), (out, .inl (KL, 1, .inr (.inl (fun _ => 0))))] H := hP.sub [0, 1, 2, 3, 4, 5, 6, 7, 9, 10, 12, 14, 16, 17, 18, 19, 20, 22, 24, 26, 27, 29, 31, 43, 44, 48] rfl
  have hD : va_D A [(w, .inr (7, [.ref st, .ref hi, .ref re, .ref fo, .ref bu, .ref pa])), (st, .inr (6, [.ref la, .ref me, .ref li, .int 4, .int 0, .int 0])), (la, .inr (2, [.ref ld, .ref lz])), (ld, .inr (4, [.ref ldA, .int 0])), (ldA, .inl (K, 9, .inl (fun _ => 0))), (lz, .inr (4, [.ref lzA, .int 0])), (lzA, .inl (K, 41, .inl (fun _ => 0))), (me, .inr (4, [.ref meA, .int 0])), (li, .inr (0, [.ref ln, .ref ll, .ref lc])), (ln, .inr (4, [.ref lnA, .int 0])), (ll, .inr (4, [.ref llA, .int 0])), (lc, .inr (4, [.ref lcA, .int 0])), (hi, .inr (5, [.ref ri, .int 0, .int 0])), (ri, .inl (KS, 6, .inr (.inr (.inr (.inr rf))))), (zst, .inr (6, [.ref zla, .ref zme, .ref zli, .int 4, .int 0, .int 0])), (zla, .inr (2, [.ref zld, .ref zlz])), (zld, .inr (4, [.ref zldA, .int 0])), (zlz, .inr (4, [.ref zlzA, .int 0])), (zme, .inr (4, [.ref zmeA, .int 0])), (zli, .inr (0, [.ref zln, .ref zll, .ref zlc])), (zln, .inr (4, [.ref zlnA, .int 0])), (zll, .inr (4, [.ref zllA, .int 0])), (zlc, .inr (4, [.ref zlcA, .int 0])), (mo, .inr (8, [.ref ms, .int 0, .ref mb, .int 0, .int 0, .ref mlk, .int 0, .ref mfd, .int 0, .int 0, .int 0, .int 0])), (ms, .inl (K, 889, .inl (upd (fun _ => 0) 93 4))), (out, .inl (KL, 1, .inr (.inl (fun _ => 0))))] := hD.sub [0, 1, 2, 3, 4, 5, 6, 7, 9, 10, 12, 14, 16, 17, 18, 19, 20, 22, 24, 26, 27, 29, 31, 43, 44, 48] (by decide) rfl
  refine lv_aload_n hx hb dL_law_180 rfl (lv_at hl 3 rfl) ?_
  refine lv_aload_n hx hb dL_law_181 rfl (lv_at hl 4 rfl) ?_
  refine lv_iload hx hb dL_law_182 (lv_at hl 0 rfl) ?_
  refine lv_iconst (v := 1) hx hb dL_law_184 (by decide) ?_
  refine lv_iadd hx hb dL_law_185 ?_
  refine k_nrm (y := 1) (by decide) ?_
  refine va_sld hx hb hX hbl hbA hS (by unfold vp_in; decide) dL_law_186 ?_
  refine k_nrm (y := y1) (by rw [hy1]; rfl) ?_
  refine lv_aload_n hx hb dL_law_187 rfl (lv_at hl 4 rfl) ?_
  refine lv_iload hx hb dL_law_188 (lv_at hl 0 rfl) ?_
  refine lv_iconst (v := 2) hx hb dL_law_190 (by decide) ?_
  refine lv_iadd hx hb dL_law_191 ?_
  refine k_nrm (y := 2) (by decide) ?_
  refine va_sld hx hb hX hbl hbA hS (by unfold vp_in; decide) dL_law_192 ?_
  refine k_nrm (y := y2) (by rw [hy2]; rfl) ?_
  refine lv_aload_n hx hb dL_law_193 rfl (lv_at hl 1 rfl) ?_
  have ct := k_cut_of (wc := [(w, .inr (7, [.ref st, .ref hi, .ref re, .ref fo, .ref bu, .ref pa])), (hi, .inr (5, [.ref ri, .int 0, .int 0])), (ri, .inl (KS, 6, .inr (.inr (.inr (.inr rf))))), (zst, .inr (6, [.ref zla, .ref zme, .ref zli, .int 4, .int 0, .int 0])), (zla, .inr (2, [.ref zld, .ref zlz])), (zld, .inr (4, [.ref zldA, .int 0])), (zlz, .inr (4, [.ref zlzA, .int 0])), (zme, .inr (4, [.ref zmeA, .int 0])), (zli, .inr (0, [.ref zln, .ref zll, .ref zlc])), (zln, .inr (4, [.ref zlnA, .int 0])), (zll, .inr (4, [.ref zllA, .int 0])), (zlc, .inr (4, [.ref zlcA, .int 0])), (st, .inr (6, [.ref la, .ref me, .ref li, .int 4, .int 0, .int 0])), (la, .inr (2, [.ref ld, .ref lz])), (ld, .inr (4, [.ref ldA, .int 0])), (lz, .inr (4, [.ref lzA, .int 0])), (me, .inr (4, [.ref meA, .int 0])), (li, .inr (0, [.ref ln, .ref ll, .ref lc])), (ln, .inr (4, [.ref lnA, .int 0])), (ll, .inr (4, [.ref llA, .int 0])), (lc, .inr (4, [.ref lcA, .int 0])), (ldA, .inl (K, 9, .inl (fun _ => 0))), (lzA, .inl (K, 41, .inl (fun _ => 0))), (out, .inl (KL, 1, .inr (.inl (fun _ => 0))))]) (wr := [(mo, .inr (8, [.ref ms, .int 0, .ref mb, .int 0, .int 0, .ref mlk, .int 0, .ref mfd, .int 0, .int 0, .int 0, .int 0])), (ms, .inl (K, 889, .inl (upd (fun _ => 0) 93 4)))]) (tc := [(K, .int), (KS, .object "BarcodeWand$State"), (KL, .long)]) hG hS hA hK hP hD [0, 12, 13, 14, 15, 16, 17, 18, 19, 20, 21, 22, 1, 2, 3, 5, 7, 8, 9, 10, 11, 4, 6, 25] [23, 24] [0, 1, 3] rfl rfl (by decide) (by decide) (by decide) rfl
  refine k_endi (As := [.ref w, .int y1, .int y2, .ref out]) ct (k_runSW (As := [.ref w, .int y1, .int y2, .ref out]) (rest := []) S0 Ls_L_77 ct (c_L_print l hst D w st hi re fo bu pa ri KS rf zst zla zme zli 4 0 0 zld zlz zldA 0 zlzA 0 zmeA 0 zln zll zlc zlnA 0 zllA 0 zlcA 0 la me li 4 0 0 ld lz ldA lzA meA ln ll lc lnA llA lcA K (fun _ => 0) (fun _ => 0) y1 y2 out KL (fun _ => 0) (by assumption) H.size) hl.1 rfl (Nat.le_of_ble_eq_true rfl) rfl dL_law_194 ⟨⟨Nat.le_of_ble_eq_true rfl, Nat.le_of_ble_eq_true rfl⟩, Nat.le_of_ble_eq_true rfl, Nat.le_of_ble_eq_true rfl⟩) rfl rfl (fun r_1 og_2 H locs hw_3 hP hD hK hS => ?_)
  have hK : va_K D vwCl [(K, .int), (KS, .object "BarcodeWand$State"), (KC, .char), (KL, .long)] s := hK
  have hP : va_P D vwCl [(mo, .inr (8, [.ref ms, .int 0, .ref mb, .int 0, .int 0, .ref mlk, .int 0, .ref mfd, .int 0, .int 0, .int 0, .int 0])), (ms, .inl (K, 889, .inl (upd (fun _ => 0) 93 4))), (out, .inl (KL, 1, .inr (.inl og_2)))] H := hP
  have hD : va_D A [(mo, .inr (8, [.ref ms, .int 0, .ref mb, .int 0, .int 0, .ref mlk, .int 0, .ref mfd, .int 0, .int 0, .int 0, .int 0])), (ms, .inl (K, 889, .inl (upd (fun _ => 0) 93 4))), (out, .inl (KL, 1, .inr (.inl og_2)))] := hD
  rcases hw_3 with ⟨c_4, rfl, c_5⟩ | ⟨c_6, rfl⟩
  · skip
    refine lv_istore (lv' := [(5, .int 0), (4, .int 0), (3, .ref out), (2, .ref mo), (1, .ref w), (0, .ref b)]) hx hb dL_law_197 hl (by decide) rfl (fun ls hl => ?_)
    refine lv_aload_n hx hb dL_law_199 rfl (lv_at hl 3 rfl) ?_
    refine lv_aload_n hx hb dL_law_200 rfl (lv_at hl 5 rfl) ?_
    refine lv_iload hx hb dL_law_201 (lv_at hl 1 rfl) ?_
    refine lv_iconst (v := 1) hx hb dL_law_203 (by decide) ?_
    refine lv_iadd hx hb dL_law_204 ?_
    refine k_nrm (y := 1) (by decide) ?_
    refine va_sld hx hb hX hbl hbA hS (by unfold vp_in; decide) dL_law_205 ?_
    refine k_nrm (y := y1) (by rw [hy1]; rfl) ?_
    refine lv_aload_n hx hb dL_law_206 rfl (lv_at hl 5 rfl) ?_
    refine lv_iload hx hb dL_law_207 (lv_at hl 1 rfl) ?_
    refine lv_iconst (v := 2) hx hb dL_law_209 (by decide) ?_
    refine lv_iadd hx hb dL_law_210 ?_
    refine k_nrm (y := 2) (by decide) ?_
    refine va_sld hx hb hX hbl hbA hS (by unfold vp_in; decide) dL_law_211 ?_
    refine k_nrm (y := y2) (by rw [hy2]; rfl) ?_
    have ct := k_cut_of (wc := [(mo, .inr (8, [.ref ms, .int 0, .ref mb, .int 0, .int 0, .ref mlk, .int 0, .ref mfd, .int 0, .int 0, .int 0, .int 0])), (ms, .inl (K, 889, .inl (upd (fun _ => 0) 93 4)))]) (wr := [(out, .inl (KL, 1, .inr (.inl og_2)))]) (tc := [(K, .int)]) hG hS hA hK hP hD [0, 1] [2] [0] rfl rfl (by decide) (by decide) (by decide) rfl
    refine k_endi (As := [.ref mo, .int y1, .int y2]) ct (k_runV (As := [.int y1, .int y2]) (rest := []) S0 Lv_L_82 rfl (ci := 8) (q0 := 0) rfl rfl ct (c_M_print l D mo ms mb 0 mlk 0 mfd 0 0 0 0 K (upd (fun _ => 0) 93 4) y1 y2 (by first | assumption | exact (cpf_lo (by decide)).trans (by assumption)) (by first | assumption | exact (cpf_lo (by decide)).trans (by assumption)) (by first | assumption | exact (cpf_lo (by decide)).trans (by assumption)) (by first | assumption | exact (cpf_lo (by decide)).trans (by assumption)) (by first | assumption | exact (cpf_lo (by decide)).trans (by assumption)) (by first | assumption | exact (cpf_lo (by decide)).trans (by assumption)) H.size) hl.1 rfl (Nat.le_of_ble_eq_true rfl) rfl dL_law_212 ⟨⟨Nat.le_of_ble_eq_true rfl, Nat.le_of_ble_eq_true rfl⟩, Nat.le_of_ble_eq_true rfl, Nat.le_of_ble_eq_true rfl⟩) rfl rfl (fun r_7 u H locs hw_11 hP hD hK hS => ?_)
    obtain ⟨th1v_8, sv1v_9, sg_10⟩ := u
    have hK : va_K D vwCl [(K, .int), (KS, .object "BarcodeWand$State"), (KC, .char), (KL, .long)] s := hK
    have hP : va_P D vwCl [(out, .inl (KL, 1, .inr (.inl og_2))), (mo, .inr (8, [.ref ms, .int sv1v_9, .ref mb, .int 0, .int th1v_8, .ref mlk, .int 0, .ref mfd, .int 0, .int 0, .int 0, .int 0])), (ms, .inl (K, 889, .inl sg_10))] H := hP
    have hD : va_D A [(out, .inl (KL, 1, .inr (.inl og_2))), (mo, .inr (8, [.ref ms, .int sv1v_9, .ref mb, .int 0, .int th1v_8, .ref mlk, .int 0, .ref mfd, .int 0, .int 0, .int 0, .int 0])), (ms, .inl (K, 889, .inl sg_10))] := hD
    rcases hw_11 with ⟨c_12, rfl, rfl⟩ | ⟨c_13, rfl⟩
    · skip
      refine lv_istore (lv' := [(6, .int (chkd (cS y1 y2.toNatClampNeg))), (5, .int 0), (4, .int 0), (3, .ref out), (2, .ref mo), (1, .ref w), (0, .ref b)]) hx hb dL_law_215 hl (by decide) rfl (fun ls hl => ?_)
      refine lv_aload_n hx hb dL_law_217 rfl (lv_at hl 4 rfl) ?_
      have ct := k_cut_of (wc := [(mo, .inr (8, [.ref ms, .int sv1v_9, .ref mb, .int 0, .int 0, .ref mlk, .int 0, .ref mfd, .int 0, .int 0, .int 0, .int 0]))]) (wr := [(out, .inl (KL, 1, .inr (.inl og_2))), (ms, .inl (K, 889, .inl sg_10))]) (tc := []) hG hS hA hK hP hD [1] [0, 2] [] rfl rfl (by decide) (by decide) (by decide) rfl
      refine k_endi (As := [.ref mo]) ct (k_runV (As := []) (rest := []) S0 Lv_L_83 rfl (ci := 8) (q0 := 0) rfl rfl ct (c_M_thrown2 l D mo ms sv1v_9 mb 0 0 mlk 0 mfd 0 0 0 0 H.size) hl.1 rfl (Nat.le_of_ble_eq_true rfl) rfl dL_law_218 ⟨⟨Nat.le_of_ble_eq_true rfl, Nat.le_of_ble_eq_true rfl⟩, Nat.le_of_ble_eq_true rfl, Nat.le_of_ble_eq_true rfl⟩) rfl rfl (fun r_14 _ H locs hw_15 hP hD hK hS => ?_)
      have hK : va_K D vwCl [(K, .int), (KS, .object "BarcodeWand$State"), (KC, .char), (KL, .long)] s := hK
      have hP : va_P D vwCl [(out, .inl (KL, 1, .inr (.inl og_2))), (ms, .inl (K, 889, .inl sg_10)), (mo, .inr (8, [.ref ms, .int sv1v_9, .ref mb, .int 0, .int 0, .ref mlk, .int 0, .ref mfd, .int 0, .int 0, .int 0, .int 0]))] H := hP
      have hD : va_D A [(out, .inl (KL, 1, .inr (.inl og_2))), (ms, .inl (K, 889, .inl sg_10)), (mo, .inr (8, [.ref ms, .int sv1v_9, .ref mb, .int 0, .int 0, .ref mlk, .int 0, .ref mfd, .int 0, .int 0, .int 0, .int 0]))] := hD
      have hw_15 : r_14 = 0 := hw_15
      have hw_15 := hw_15.symm
      subst hw_15
      refine k_nrm (y := 0) rfl ?_
      refine lv_iload hx hb dL_law_221 (lv_at hl 1 rfl) ?_
      refine lv_icmp_eq (tgt := 228) hx hb dL_law_223 (by decide) (fun _ => ?_) (fun c9 => absurd (by decide) c9)
      refine lv_iload hx hb dL_law_228 (lv_at hl 1 rfl) ?_
      refine lv_if_ne (tgt := 245) hx hb dL_law_230 (by decide) (fun c9 => absurd (by decide) c9) (fun _ => ?_)
      refine lv_aload_n hx hb dL_law_233 rfl (lv_at hl 3 rfl) ?_
      refine lv_iconst (v := 0) hx hb dL_law_234 (by decide) ?_
      refine va_lald hx hb hK hP 0 3 rfl rfl (by unfold vp_in; decide) dL_law_235 ?_
      refine k_nrml (y := (chkd (cS y1 y2.toNatClampNeg)).toInt64) (show og_2 (0 : Int32).toNatClampNeg = (chkd (cS y1 y2.toNatClampNeg)).toInt64 from c_5) ?_
      refine lv_iload hx hb dL_law_236 (lv_at hl 0 rfl) ?_
      refine lv_i2l (v := (chkd (cS y1 y2.toNatClampNeg)).toInt64) hx hb dL_law_238 rfl ?_
      refine W.lcmp hx hb dL_law_239 ?_
      refine k_nrm (y := 0) (lgc _) ?_
      refine lv_if_eq (tgt := 245) hx hb dL_law_240 (by decide) (fun _ => ?_) (fun c9 => absurd (by decide) c9)
      refine lv_goto (tgt := 1479) hx hb dL_law_245 (by decide) ?_
      exact law_end C0 (by rw [hAe]; exact hS) (lv_sub hl [2, 6] rfl) (Nat.le_of_ble_eq_true rfl) (Nat.le_of_ble_eq_true rfl)
    · skip
      exact absurd c_4 c_13
  · skip
    refine lv_istore (lv' := [(5, .int 1), (4, .int 0), (3, .ref out), (2, .ref mo), (1, .ref w), (0, .ref b)]) hx hb dL_law_197 hl (by decide) rfl (fun ls hl => ?_)
    refine lv_aload_n hx hb dL_law_199 rfl (lv_at hl 3 rfl) ?_
    refine lv_aload_n hx hb dL_law_200 rfl (lv_at hl 5 rfl) ?_
    refine lv_iload hx hb dL_law_201 (lv_at hl 1 rfl) ?_
    refine lv_iconst (v := 1) hx hb dL_law_203 (by decide) ?_
    refine lv_iadd hx hb dL_law_204 ?_
    refine k_nrm (y := 1) (by decide) ?_
    refine va_sld hx hb hX hbl hbA hS (by unfold vp_in; decide) dL_law_205 ?_
    refine k_nrm (y := y1) (by rw [hy1]; rfl) ?_
    refine lv_aload_n hx hb dL_law_206 rfl (lv_at hl 5 rfl) ?_
    refine lv_iload hx hb dL_law_207 (lv_at hl 1 rfl) ?_
    refine lv_iconst (v := 2) hx hb dL_law_209 (by decide) ?_
    refine lv_iadd hx hb dL_law_210 ?_
    refine k_nrm (y := 2) (by decide) ?_
    refine va_sld hx hb hX hbl hbA hS (by unfold vp_in; decide) dL_law_211 ?_
    refine k_nrm (y := y2) (by rw [hy2]; rfl) ?_
    have ct := k_cut_of (wc := [(mo, .inr (8, [.ref ms, .int 0, .ref mb, .int 0, .int 0, .ref mlk, .int 0, .ref mfd, .int 0, .int 0, .int 0, .int 0])), (ms, .inl (K, 889, .inl (upd (fun _ => 0) 93 4)))]) (wr := [(out, .inl (KL, 1, .inr (.inl og_2)))]) (tc := [(K, .int)]) hG hS hA hK hP hD [0, 1] [2] [0] rfl rfl (by decide) (by decide) (by decide) rfl
    refine k_endi (As := [.ref mo, .int y1, .int y2]) ct (k_runV (As := [.int y1, .int y2]) (rest := []) S0 Lv_L_82 rfl (ci := 8) (q0 := 0) rfl rfl ct (c_M_print l D mo ms mb 0 mlk 0 mfd 0 0 0 0 K (upd (fun _ => 0) 93 4) y1 y2 (by first | assumption | exact (cpf_lo (by decide)).trans (by assumption)) (by first | assumption | exact (cpf_lo (by decide)).trans (by assumption)) (by first | assumption | exact (cpf_lo (by decide)).trans (by assumption)) (by first | assumption | exact (cpf_lo (by decide)).trans (by assumption)) (by first | assumption | exact (cpf_lo (by decide)).trans (by assumption)) (by first | assumption | exact (cpf_lo (by decide)).trans (by assumption)) H.size) hl.1 rfl (Nat.le_of_ble_eq_true rfl) rfl dL_law_212 ⟨⟨Nat.le_of_ble_eq_true rfl, Nat.le_of_ble_eq_true rfl⟩, Nat.le_of_ble_eq_true rfl, Nat.le_of_ble_eq_true rfl⟩) rfl rfl (fun r_16 u H locs hw_20 hP hD hK hS => ?_)
    obtain ⟨th1v_17, sv1v_18, sg_19⟩ := u
    have hK : va_K D vwCl [(K, .int), (KS, .object "BarcodeWand$State"), (KC, .char), (KL, .long)] s := hK
    have hP : va_P D vwCl [(out, .inl (KL, 1, .inr (.inl og_2))), (mo, .inr (8, [.ref ms, .int sv1v_18, .ref mb, .int 0, .int th1v_17, .ref mlk, .int 0, .ref mfd, .int 0, .int 0, .int 0, .int 0])), (ms, .inl (K, 889, .inl sg_19))] H := hP
    have hD : va_D A [(out, .inl (KL, 1, .inr (.inl og_2))), (mo, .inr (8, [.ref ms, .int sv1v_18, .ref mb, .int 0, .int th1v_17, .ref mlk, .int 0, .ref mfd, .int 0, .int 0, .int 0, .int 0])), (ms, .inl (K, 889, .inl sg_19))] := hD
    rcases hw_20 with ⟨c_21, rfl, rfl⟩ | ⟨c_22, rfl⟩
    · skip
      exact absurd c_21 c_6
    · skip
      refine lv_istore (lv' := [(6, .int r_16), (5, .int 1), (4, .int 0), (3, .ref out), (2, .ref mo), (1, .ref w), (0, .ref b)]) hx hb dL_law_215 hl (by decide) rfl (fun ls hl => ?_)
      refine lv_aload_n hx hb dL_law_217 rfl (lv_at hl 4 rfl) ?_
      have ct := k_cut_of (wc := [(mo, .inr (8, [.ref ms, .int sv1v_18, .ref mb, .int 0, .int 1, .ref mlk, .int 0, .ref mfd, .int 0, .int 0, .int 0, .int 0]))]) (wr := [(out, .inl (KL, 1, .inr (.inl og_2))), (ms, .inl (K, 889, .inl sg_19))]) (tc := []) hG hS hA hK hP hD [1] [0, 2] [] rfl rfl (by decide) (by decide) (by decide) rfl
      refine k_endi (As := [.ref mo]) ct (k_runV (As := []) (rest := []) S0 Lv_L_83 rfl (ci := 8) (q0 := 0) rfl rfl ct (c_M_thrown2 l D mo ms sv1v_18 mb 0 1 mlk 0 mfd 0 0 0 0 H.size) hl.1 rfl (Nat.le_of_ble_eq_true rfl) rfl dL_law_218 ⟨⟨Nat.le_of_ble_eq_true rfl, Nat.le_of_ble_eq_true rfl⟩, Nat.le_of_ble_eq_true rfl, Nat.le_of_ble_eq_true rfl⟩) rfl rfl (fun r_23 _ H locs hw_24 hP hD hK hS => ?_)
      have hK : va_K D vwCl [(K, .int), (KS, .object "BarcodeWand$State"), (KC, .char), (KL, .long)] s := hK
      have hP : va_P D vwCl [(out, .inl (KL, 1, .inr (.inl og_2))), (ms, .inl (K, 889, .inl sg_19)), (mo, .inr (8, [.ref ms, .int sv1v_18, .ref mb, .int 0, .int 1, .ref mlk, .int 0, .ref mfd, .int 0, .int 0, .int 0, .int 0]))] H := hP
      have hD : va_D A [(out, .inl (KL, 1, .inr (.inl og_2))), (ms, .inl (K, 889, .inl sg_19)), (mo, .inr (8, [.ref ms, .int sv1v_18, .ref mb, .int 0, .int 1, .ref mlk, .int 0, .ref mfd, .int 0, .int 0, .int 0, .int 0]))] := hD
      have hw_24 : r_23 = 1 := hw_24
      have hw_24 := hw_24.symm
      subst hw_24
      refine k_nrm (y := 1) rfl ?_
      refine lv_iload hx hb dL_law_221 (lv_at hl 1 rfl) ?_
      refine lv_icmp_eq (tgt := 228) hx hb dL_law_223 (by decide) (fun _ => ?_) (fun c9 => absurd (by decide) c9)
      refine lv_iload hx hb dL_law_228 (lv_at hl 1 rfl) ?_
      refine lv_if_ne (tgt := 245) hx hb dL_law_230 (by decide) (fun _ => ?_) (fun c9 => absurd c9 (by decide))
      refine lv_goto (tgt := 1479) hx hb dL_law_245 (by decide) ?_
      exact law_end C0 (by rw [hAe]; exact hS) (lv_sub hl [2, 6] rfl) (Nat.le_of_ble_eq_true rfl) (Nat.le_of_ble_eq_true rfl)
set_option maxHeartbeats 4000000 in
set_option maxRecDepth 100000 in
theorem law_c1 {p : Program} {l : Launch} {e : Env} {s : State} {m : MethodId} {below : List Frame} {meth : Method} {c : Code} {b : Nat} {xs : Nat → Int32} (hst : l.stackTraces = false) (D : va_G) (C0 : lw_At p s m meth c b 4 xs) (hG : k_G (fun q : Nat => s.heap.size ≤ q) s s.heap) {H : Heap} {locs : List Loc} {ls : Array Slot} (h : law_I D s b H locs ls) : W p l e room_1 s m #[Value.ref b] below meth c H locs 124 2208 (lw_Z below #[Value.ref b] s) (F0 m 248 ls []) := by
  have C1 := C0
  obtain ⟨hx, hb, hr, hml, hown, hts, hX, hbl, hlocks, hgv⟩ := C1
  have hown : s.vm.findClass RL = some m.cls := hown
  have ht : ∀ v9 ∈ wsA, v9.before #[Value.ref b] s = true := fun v9 h9 => hts v9 (wsA_tbl h9)
  have S0 : k_C p s m #[Value.ref b] c cL_law 7 RL := ⟨hx, hb, hml, hown, ht⟩
  have hbA : ¬ (fun q : Nat => s.heap.size ≤ q) b := Nat.not_le.mpr hbl
  have hA : ∀ q : Nat, s.heap.size ≤ q → (fun q : Nat => s.heap.size ≤ q) q := fun _ h9 => h9
  obtain ⟨y1, hy1⟩ : ∃ z9 : Int32, z9 = xs 1 := ⟨_, rfl⟩
  obtain ⟨y2, hy2⟩ : ∃ z9 : Int32, z9 = xs 2 := ⟨_, rfl⟩
  obtain ⟨y3, hy3⟩ : ∃ z9 : Int32, z9 = xs 3 := ⟨_, rfl⟩
  have hs0 : (upd (fun _ => 0) 93 4) 0 = 0 := rfl
  have hs51 : (upd (fun _ => 0) 93 4) 51 = 0 := rfl
  have hs93 : (upd (fun _ => 0) 93 4) 93 = 4 := rfl
  have hs94 : (upd (fun _ => 0) 93 4) 94 = 0 := rfl
  have hs125 : (upd (fun _ => 0) 93 4) 125 = 0 := rfl
  have hs126 : (upd (fun _ => 0) 93 4) 126 = 0 := rfl
  obtain ⟨w, st, la, ld, ldA, lz, lzA, me, meA, li, ln, lnA, ll, llA, lc, lcA, hi, ri, zst, zla, zld, zldA, zlz, zlzA, zme, zmeA, zli, zln, zlnA, zll, zllA, zlc, zlcA, re, rd, rdA, rl, rlA, fo, foA, bu, buA, pa, mo, ms, mb, mlk, mfd, out, rf, K, KS, KC, KL, hrf, hK, hP, hD, hS, hl⟩ := h
  have hl : lv_has ls 7 [(4, .int 0), (3, .ref out), (2, .ref mo), (1, .ref w), (0, .ref b)] := hl
  generalize hAe : (fun q : Nat => s.heap.size ≤ q) = A at hG hD hS hA hbA
  have hP : va_P D vwCl [(w, .inr (7, [.ref st, .ref hi, .ref re, .ref fo, .ref bu, .ref pa])), (st, .inr (6, [.ref la, .ref me, .ref li, .int 4, .int 0, .int 0])), (la, .inr (2, [.ref ld, .ref lz])), (lz, .inr (4, [.ref lzA, .int 0])), (mo, .inr (8, [.ref ms, .int 0, .ref mb, .int 0, .int 0, .ref mlk, .int 0, .ref mfd, .int 0, .int 0, .int 0, .int 0])), (ms, .inl (K, 889, .inl (upd (fun _ => 0) 93 4))), (out, .inl (KL, 1, .inr (.inl (fun _ => 0))))] H := hP.sub [0, 1, 2, 5, 43, 44, 48] rfl
  have hD : va_D A [(w, .inr (7, [.ref st, .ref hi, .ref re, .ref fo, .ref bu, .ref pa])), (st, .inr (6, [.ref la, .ref me, .ref li, .int 4, .int 0, .int 0])), (la, .inr (2, [.ref ld, .ref lz])), (lz, .inr (4, [.ref lzA, .int 0])), (mo, .inr (8, [.ref ms, .int 0, .ref mb, .int 0, .int 0, .ref mlk, .int 0, .ref mfd, .int 0, .int 0, .int 0, .int 0])), (ms, .inl (K, 889, .inl (upd (fun _ => 0) 93 4))), (out, .inl (KL, 1, .inr (.inl (fun _ => 0))))] := hD.sub [0, 1, 2, 5, 43, 44, 48] (by decide) rfl
  refine lv_aload_n hx hb dL_law_248 rfl (lv_at hl 3 rfl) ?_
  refine lv_aload_n hx hb dL_law_249 rfl (lv_at hl 4 rfl) ?_
  refine lv_iload hx hb dL_law_250 (lv_at hl 0 rfl) ?_
  refine lv_iconst (v := 1) hx hb dL_law_252 (by decide) ?_
  refine lv_iadd hx hb dL_law_253 ?_
  refine k_nrm (y := 1) (by decide) ?_
  refine va_sld hx hb hX hbl hbA hS (by unfold vp_in; decide) dL_law_254 ?_
  refine k_nrm (y := y1) (by rw [hy1]; rfl) ?_
  refine lv_aload_n hx hb dL_law_255 rfl (lv_at hl 4 rfl) ?_
  refine lv_iload hx hb dL_law_256 (lv_at hl 0 rfl) ?_
  refine lv_iconst (v := 2) hx hb dL_law_258 (by decide) ?_
  refine lv_iadd hx hb dL_law_259 ?_
  refine k_nrm (y := 2) (by decide) ?_
  refine va_sld hx hb hX hbl hbA hS (by unfold vp_in; decide) dL_law_260 ?_
  refine k_nrm (y := y2) (by rw [hy2]; rfl) ?_
  refine lv_aload_n hx hb dL_law_261 rfl (lv_at hl 1 rfl) ?_
  have ct := k_cut_of (wc := [(w, .inr (7, [.ref st, .ref hi, .ref re, .ref fo, .ref bu, .ref pa])), (st, .inr (6, [.ref la, .ref me, .ref li, .int 4, .int 0, .int 0])), (la, .inr (2, [.ref ld, .ref lz])), (lz, .inr (4, [.ref lzA, .int 0])), (out, .inl (KL, 1, .inr (.inl (fun _ => 0))))]) (wr := [(mo, .inr (8, [.ref ms, .int 0, .ref mb, .int 0, .int 0, .ref mlk, .int 0, .ref mfd, .int 0, .int 0, .int 0, .int 0])), (ms, .inl (K, 889, .inl (upd (fun _ => 0) 93 4)))]) (tc := [(KL, .long)]) hG hS hA hK hP hD [0, 1, 2, 3, 6] [4, 5] [3] rfl rfl (by decide) (by decide) (by decide) rfl
  refine k_endi (As := [.ref w, .int y1, .int y2, .ref out]) ct (k_runSW (As := [.ref w, .int y1, .int y2, .ref out]) (rest := []) S0 Ls_L_86 ct (c_L_smudge l hst D w st hi re fo bu pa la me li 4 0 0 ld lz lzA y1 y2 out KL (fun _ => 0) H.size) hl.1 rfl (Nat.le_of_ble_eq_true rfl) rfl dL_law_262 ⟨⟨Nat.le_of_ble_eq_true rfl, Nat.le_of_ble_eq_true rfl⟩, Nat.le_of_ble_eq_true rfl, Nat.le_of_ble_eq_true rfl⟩) rfl rfl (fun r_1 og_2 H locs hw_3 hP hD hK hS => ?_)
  have hK : va_K D vwCl [(K, .int), (KS, .object "BarcodeWand$State"), (KC, .char), (KL, .long)] s := hK
  have hP : va_P D vwCl [(mo, .inr (8, [.ref ms, .int 0, .ref mb, .int 0, .int 0, .ref mlk, .int 0, .ref mfd, .int 0, .int 0, .int 0, .int 0])), (ms, .inl (K, 889, .inl (upd (fun _ => 0) 93 4))), (out, .inl (KL, 1, .inr (.inl og_2)))] H := hP
  have hD : va_D A [(mo, .inr (8, [.ref ms, .int 0, .ref mb, .int 0, .int 0, .ref mlk, .int 0, .ref mfd, .int 0, .int 0, .int 0, .int 0])), (ms, .inl (K, 889, .inl (upd (fun _ => 0) 93 4))), (out, .inl (KL, 1, .inr (.inl og_2)))] := hD
  have hw_3 : r_1 = 1 := hw_3
  have hw_3 := hw_3.symm
  subst hw_3
  refine k_nrm (y := 1) rfl ?_
  refine lv_istore (lv' := [(5, .int 1), (4, .int 0), (3, .ref out), (2, .ref mo), (1, .ref w), (0, .ref b)]) hx hb dL_law_265 hl (by decide) rfl (fun ls hl => ?_)
  refine lv_aload_n hx hb dL_law_267 rfl (lv_at hl 3 rfl) ?_
  refine lv_aload_n hx hb dL_law_268 rfl (lv_at hl 5 rfl) ?_
  refine lv_iload hx hb dL_law_269 (lv_at hl 1 rfl) ?_
  refine lv_iconst (v := 1) hx hb dL_law_271 (by decide) ?_
  refine lv_iadd hx hb dL_law_272 ?_
  refine k_nrm (y := 1) (by decide) ?_
  refine va_sld hx hb hX hbl hbA hS (by unfold vp_in; decide) dL_law_273 ?_
  refine k_nrm (y := y1) (by rw [hy1]; rfl) ?_
  refine lv_aload_n hx hb dL_law_274 rfl (lv_at hl 5 rfl) ?_
  refine lv_iload hx hb dL_law_275 (lv_at hl 1 rfl) ?_
  refine lv_iconst (v := 2) hx hb dL_law_277 (by decide) ?_
  refine lv_iadd hx hb dL_law_278 ?_
  refine k_nrm (y := 2) (by decide) ?_
  refine va_sld hx hb hX hbl hbA hS (by unfold vp_in; decide) dL_law_279 ?_
  refine k_nrm (y := y2) (by rw [hy2]; rfl) ?_
  have ct := k_cut_of (wc := [(mo, .inr (8, [.ref ms, .int 0, .ref mb, .int 0, .int 0, .ref mlk, .int 0, .ref mfd, .int 0, .int 0, .int 0, .int 0])), (ms, .inl (K, 889, .inl (upd (fun _ => 0) 93 4)))]) (wr := [(out, .inl (KL, 1, .inr (.inl og_2)))]) (tc := [(K, .int)]) hG hS hA hK hP hD [0, 1] [2] [0] rfl rfl (by decide) (by decide) (by decide) rfl
  refine k_endi (As := [.ref mo, .int y1, .int y2]) ct (k_runV (As := [.int y1, .int y2]) (rest := []) S0 Lv_L_88 rfl (ci := 8) (q0 := 0) rfl rfl ct (c_M_smudge l D mo ms 0 mb 0 mlk 0 mfd 0 0 0 0 K (upd (fun _ => 0) 93 4) y1 y2 (by first | assumption | exact (cpf_lo (by decide)).trans (by assumption)) (by first | assumption | exact (cpf_lo (by decide)).trans (by assumption)) (by first | assumption | exact (cpf_lo (by decide)).trans (by assumption)) (by first | assumption | exact (cpf_lo (by decide)).trans (by assumption)) (by first | assumption | exact (cpf_lo (by decide)).trans (by assumption)) (by first | assumption | exact (cpf_lo (by decide)).trans (by assumption)) H.size) hl.1 rfl (Nat.le_of_ble_eq_true rfl) rfl dL_law_280 ⟨⟨Nat.le_of_ble_eq_true rfl, Nat.le_of_ble_eq_true rfl⟩, Nat.le_of_ble_eq_true rfl, Nat.le_of_ble_eq_true rfl⟩) rfl rfl (fun r_4 _ H locs hw_5 hP hD hK hS => ?_)
  have hK : va_K D vwCl [(K, .int), (KS, .object "BarcodeWand$State"), (KC, .char), (KL, .long)] s := hK
  have hP : va_P D vwCl [(out, .inl (KL, 1, .inr (.inl og_2))), (mo, .inr (8, [.ref ms, .int 0, .ref mb, .int 0, .int 1, .ref mlk, .int 0, .ref mfd, .int 0, .int 0, .int 0, .int 0])), (ms, .inl (K, 889, .inl (upd (fun _ => 0) 93 4)))] H := hP
  have hD : va_D A [(out, .inl (KL, 1, .inr (.inl og_2))), (mo, .inr (8, [.ref ms, .int 0, .ref mb, .int 0, .int 1, .ref mlk, .int 0, .ref mfd, .int 0, .int 0, .int 0, .int 0])), (ms, .inl (K, 889, .inl (upd (fun _ => 0) 93 4)))] := hD
  refine lv_istore (lv' := [(6, .int r_4), (5, .int 1), (4, .int 0), (3, .ref out), (2, .ref mo), (1, .ref w), (0, .ref b)]) hx hb dL_law_283 hl (by decide) rfl (fun ls hl => ?_)
  refine lv_aload_n hx hb dL_law_285 rfl (lv_at hl 4 rfl) ?_
  have ct := k_cut_of (wc := [(mo, .inr (8, [.ref ms, .int 0, .ref mb, .int 0, .int 1, .ref mlk, .int 0, .ref mfd, .int 0, .int 0, .int 0, .int 0]))]) (wr := [(out, .inl (KL, 1, .inr (.inl og_2))), (ms, .inl (K, 889, .inl (upd (fun _ => 0) 93 4)))]) (tc := []) hG hS hA hK hP hD [1] [0, 2] [] rfl rfl (by decide) (by decide) (by decide) rfl
  refine k_endi (As := [.ref mo]) ct (k_runV (As := []) (rest := []) S0 Lv_L_83 rfl (ci := 8) (q0 := 0) rfl rfl ct (c_M_thrown2 l D mo ms 0 mb 0 1 mlk 0 mfd 0 0 0 0 H.size) hl.1 rfl (Nat.le_of_ble_eq_true rfl) rfl dL_law_286 ⟨⟨Nat.le_of_ble_eq_true rfl, Nat.le_of_ble_eq_true rfl⟩, Nat.le_of_ble_eq_true rfl, Nat.le_of_ble_eq_true rfl⟩) rfl rfl (fun r_6 _ H locs hw_7 hP hD hK hS => ?_)
  have hK : va_K D vwCl [(K, .int), (KS, .object "BarcodeWand$State"), (KC, .char), (KL, .long)] s := hK
  have hP : va_P D vwCl [(out, .inl (KL, 1, .inr (.inl og_2))), (ms, .inl (K, 889, .inl (upd (fun _ => 0) 93 4))), (mo, .inr (8, [.ref ms, .int 0, .ref mb, .int 0, .int 1, .ref mlk, .int 0, .ref mfd, .int 0, .int 0, .int 0, .int 0]))] H := hP
  have hD : va_D A [(out, .inl (KL, 1, .inr (.inl og_2))), (ms, .inl (K, 889, .inl (upd (fun _ => 0) 93 4))), (mo, .inr (8, [.ref ms, .int 0, .ref mb, .int 0, .int 1, .ref mlk, .int 0, .ref mfd, .int 0, .int 0, .int 0, .int 0]))] := hD
  have hw_7 : r_6 = 1 := hw_7
  have hw_7 := hw_7.symm
  subst hw_7
  refine k_nrm (y := 1) rfl ?_
  refine lv_iload hx hb dL_law_289 (lv_at hl 1 rfl) ?_
  refine lv_icmp_eq (tgt := 296) hx hb dL_law_291 (by decide) (fun _ => ?_) (fun c9 => absurd (by decide) c9)
  refine lv_iload hx hb dL_law_296 (lv_at hl 1 rfl) ?_
  refine lv_if_ne (tgt := 313) hx hb dL_law_298 (by decide) (fun _ => ?_) (fun c9 => absurd c9 (by decide))
  refine lv_goto (tgt := 1479) hx hb dL_law_313 (by decide) ?_
  exact law_end C0 (by rw [hAe]; exact hS) (lv_sub hl [2, 6] rfl) (Nat.le_of_ble_eq_true rfl) (Nat.le_of_ble_eq_true rfl)
set_option maxHeartbeats 4000000 in
set_option maxRecDepth 100000 in
theorem law_c2 {p : Program} {l : Launch} {e : Env} {s : State} {m : MethodId} {below : List Frame} {meth : Method} {c : Code} {b : Nat} {xs : Nat → Int32} (hst : l.stackTraces = false) (D : va_G) (C0 : lw_At p s m meth c b 4 xs) (hG : k_G (fun q : Nat => s.heap.size ≤ q) s s.heap) {H : Heap} {locs : List Loc} {ls : Array Slot} (h : law_I D s b H locs ls) : W p l e room_1 s m #[Value.ref b] below meth c H locs 124 2208 (lw_Z below #[Value.ref b] s) (F0 m 316 ls []) := by
  have C1 := C0
  obtain ⟨hx, hb, hr, hml, hown, hts, hX, hbl, hlocks, hgv⟩ := C1
  have hown : s.vm.findClass RL = some m.cls := hown
  have ht : ∀ v9 ∈ wsA, v9.before #[Value.ref b] s = true := fun v9 h9 => hts v9 (wsA_tbl h9)
  have S0 : k_C p s m #[Value.ref b] c cL_law 7 RL := ⟨hx, hb, hml, hown, ht⟩
  have hbA : ¬ (fun q : Nat => s.heap.size ≤ q) b := Nat.not_le.mpr hbl
  have hA : ∀ q : Nat, s.heap.size ≤ q → (fun q : Nat => s.heap.size ≤ q) q := fun _ h9 => h9
  obtain ⟨y1, hy1⟩ : ∃ z9 : Int32, z9 = xs 1 := ⟨_, rfl⟩
  obtain ⟨y2, hy2⟩ : ∃ z9 : Int32, z9 = xs 2 := ⟨_, rfl⟩
  obtain ⟨y3, hy3⟩ : ∃ z9 : Int32, z9 = xs 3 := ⟨_, rfl⟩
  have hs0 : (upd (fun _ => 0) 93 4) 0 = 0 := rfl
  have hs51 : (upd (fun _ => 0) 93 4) 51 = 0 := rfl
  have hs93 : (upd (fun _ => 0) 93 4) 93 = 4 := rfl
  have hs94 : (upd (fun _ => 0) 93 4) 94 = 0 := rfl
  have hs125 : (upd (fun _ => 0) 93 4) 125 = 0 := rfl
  have hs126 : (upd (fun _ => 0) 93 4) 126 = 0 := rfl
  obtain ⟨w, st, la, ld, ldA, lz, lzA, me, meA, li, ln, lnA, ll, llA, lc, lcA, hi, ri, zst, zla, zld, zldA, zlz, zlzA, zme, zmeA, zli, zln, zlnA, zll, zllA, zlc, zlcA, re, rd, rdA, rl, rlA, fo, foA, bu, buA, pa, mo, ms, mb, mlk, mfd, out, rf, K, KS, KC, KL, hrf, hK, hP, hD, hS, hl⟩ := h
  have hl : lv_has ls 7 [(4, .int 0), (3, .ref out), (2, .ref mo), (1, .ref w), (0, .ref b)] := hl
  generalize hAe : (fun q : Nat => s.heap.size ≤ q) = A at hG hD hS hA hbA
  have hP : va_P D vwCl [(w, .inr (7, [.ref st, .ref hi, .ref re, .ref fo, .ref bu, .ref pa])), (st, .inr (6, [.ref la, .ref me, .ref li, .int 4, .int 0, .int 0])), (la, .inr (2, [.ref ld, .ref lz])), (lz, .inr (4, [.ref lzA, .int 0])), (mo, .inr (8, [.ref ms, .int 0, .ref mb, .int 0, .int 0, .ref mlk, .int 0, .ref mfd, .int 0, .int 0, .int 0, .int 0])), (ms, .inl (K, 889, .inl (upd (fun _ => 0) 93 4)))] H := hP.sub [0, 1, 2, 5, 43, 44] rfl
  have hD : va_D A [(w, .inr (7, [.ref st, .ref hi, .ref re, .ref fo, .ref bu, .ref pa])), (st, .inr (6, [.ref la, .ref me, .ref li, .int 4, .int 0, .int 0])), (la, .inr (2, [.ref ld, .ref lz])), (lz, .inr (4, [.ref lzA, .int 0])), (mo, .inr (8, [.ref ms, .int 0, .ref mb, .int 0, .int 0, .ref mlk, .int 0, .ref mfd, .int 0, .int 0, .int 0, .int 0])), (ms, .inl (K, 889, .inl (upd (fun _ => 0) 93 4)))] := hD.sub [0, 1, 2, 5, 43, 44] (by decide) rfl
  refine lv_aload_n hx hb dL_law_316 rfl (lv_at hl 3 rfl) ?_
  have ct := k_cut_of (wc := [(w, .inr (7, [.ref st, .ref hi, .ref re, .ref fo, .ref bu, .ref pa])), (st, .inr (6, [.ref la, .ref me, .ref li, .int 4, .int 0, .int 0])), (la, .inr (2, [.ref ld, .ref lz])), (lz, .inr (4, [.ref lzA, .int 0]))]) (wr := [(mo, .inr (8, [.ref ms, .int 0, .ref mb, .int 0, .int 0, .ref mlk, .int 0, .ref mfd, .int 0, .int 0, .int 0, .int 0])), (ms, .inl (K, 889, .inl (upd (fun _ => 0) 93 4)))]) (tc := []) hG hS hA hK hP hD [0, 1, 2, 3] [4, 5] [] rfl rfl (by decide) (by decide) (by decide) rfl
  refine k_endi (As := [.ref w]) ct (k_runV (As := []) (rest := []) S0 Lv_L_89 rfl (ci := 7) (q0 := 0) rfl rfl ct (c_W_elements l D w st hi re fo bu pa la me li 4 0 0 ld lz lzA H.size) hl.1 rfl (Nat.le_of_ble_eq_true rfl) rfl dL_law_317 ⟨⟨Nat.le_of_ble_eq_true rfl, Nat.le_of_ble_eq_true rfl⟩, Nat.le_of_ble_eq_true rfl, Nat.le_of_ble_eq_true rfl⟩) rfl rfl (fun r_1 _ H locs hw_2 hP hD hK hS => ?_)
  have hK : va_K D vwCl [(K, .int), (KS, .object "BarcodeWand$State"), (KC, .char), (KL, .long)] s := hK
  have hP : va_P D vwCl [(mo, .inr (8, [.ref ms, .int 0, .ref mb, .int 0, .int 0, .ref mlk, .int 0, .ref mfd, .int 0, .int 0, .int 0, .int 0])), (ms, .inl (K, 889, .inl (upd (fun _ => 0) 93 4))), (w, .inr (7, [.ref st, .ref hi, .ref re, .ref fo, .ref bu, .ref pa])), (st, .inr (6, [.ref la, .ref me, .ref li, .int 4, .int 0, .int 0])), (la, .inr (2, [.ref ld, .ref lz])), (lz, .inr (4, [.ref lzA, .int 0]))] H := hP
  have hD : va_D A [(mo, .inr (8, [.ref ms, .int 0, .ref mb, .int 0, .int 0, .ref mlk, .int 0, .ref mfd, .int 0, .int 0, .int 0, .int 0])), (ms, .inl (K, 889, .inl (upd (fun _ => 0) 93 4))), (w, .inr (7, [.ref st, .ref hi, .ref re, .ref fo, .ref bu, .ref pa])), (st, .inr (6, [.ref la, .ref me, .ref li, .int 4, .int 0, .int 0])), (la, .inr (2, [.ref ld, .ref lz])), (lz, .inr (4, [.ref lzA, .int 0]))] := hD
  have hw_2 : r_1 = 0 := hw_2
  have hw_2 := hw_2.symm
  subst hw_2
  refine k_nrm (y := 0) rfl ?_
  refine lv_aload_n hx hb dL_law_320 rfl (lv_at hl 2 rfl) ?_
  have ct := k_cut_of (wc := [(mo, .inr (8, [.ref ms, .int 0, .ref mb, .int 0, .int 0, .ref mlk, .int 0, .ref mfd, .int 0, .int 0, .int 0, .int 0])), (ms, .inl (K, 889, .inl (upd (fun _ => 0) 93 4)))]) (wr := [(w, .inr (7, [.ref st, .ref hi, .ref re, .ref fo, .ref bu, .ref pa])), (st, .inr (6, [.ref la, .ref me, .ref li, .int 4, .int 0, .int 0])), (la, .inr (2, [.ref ld, .ref lz])), (lz, .inr (4, [.ref lzA, .int 0]))]) (tc := [(K, .int)]) hG hS hA hK hP hD [0, 1] [2, 3, 4, 5] [0] rfl rfl (by decide) (by decide) (by decide) rfl
  refine k_endi (As := [.ref mo]) ct (k_runV (As := []) (rest := [.int 0]) S0 Lv_L_92 rfl (ci := 8) (q0 := 0) rfl rfl ct (c_M_elements l D mo ms 0 mb 0 mlk 0 mfd 0 0 0 0 K (upd (fun _ => 0) 93 4) (by first | assumption | exact (cpf_lo (by decide)).trans (by assumption)) (by first | assumption | exact (cpf_lo (by decide)).trans (by assumption)) (by first | assumption | exact (cpf_lo (by decide)).trans (by assumption)) (by first | assumption | exact (cpf_lo (by decide)).trans (by assumption)) (by first | assumption | exact (cpf_lo (by decide)).trans (by assumption)) (by first | assumption | exact (cpf_lo (by decide)).trans (by assumption)) H.size) hl.1 rfl (Nat.le_of_ble_eq_true rfl) rfl dL_law_321 ⟨⟨Nat.le_of_ble_eq_true rfl, Nat.le_of_ble_eq_true rfl⟩, Nat.le_of_ble_eq_true rfl, Nat.le_of_ble_eq_true rfl⟩) rfl rfl (fun r_3 _ H locs hw_4 hP hD hK hS => ?_)
  have hK : va_K D vwCl [(K, .int), (KS, .object "BarcodeWand$State"), (KC, .char), (KL, .long)] s := hK
  have hP : va_P D vwCl [(w, .inr (7, [.ref st, .ref hi, .ref re, .ref fo, .ref bu, .ref pa])), (st, .inr (6, [.ref la, .ref me, .ref li, .int 4, .int 0, .int 0])), (la, .inr (2, [.ref ld, .ref lz])), (lz, .inr (4, [.ref lzA, .int 0])), (mo, .inr (8, [.ref ms, .int 0, .ref mb, .int 0, .int 0, .ref mlk, .int 0, .ref mfd, .int 0, .int 0, .int 0, .int 0])), (ms, .inl (K, 889, .inl (upd (fun _ => 0) 93 4)))] H := hP
  have hD : va_D A [(w, .inr (7, [.ref st, .ref hi, .ref re, .ref fo, .ref bu, .ref pa])), (st, .inr (6, [.ref la, .ref me, .ref li, .int 4, .int 0, .int 0])), (la, .inr (2, [.ref ld, .ref lz])), (lz, .inr (4, [.ref lzA, .int 0])), (mo, .inr (8, [.ref ms, .int 0, .ref mb, .int 0, .int 0, .ref mlk, .int 0, .ref mfd, .int 0, .int 0, .int 0, .int 0])), (ms, .inl (K, 889, .inl (upd (fun _ => 0) 93 4)))] := hD
  have hw_4 : r_3 = 0 := hw_4
  have hw_4 := hw_4.symm
  subst hw_4
  refine k_nrm (y := 0) rfl ?_
  refine lv_icmp_eq (tgt := 1479) hx hb dL_law_324 (by decide) (fun _ => ?_) (fun c9 => absurd (by decide) c9)
  exact law_end C0 (by rw [hAe]; exact hS) (lv_sub hl [0, 4] rfl) (Nat.le_of_ble_eq_true rfl) (Nat.le_of_ble_eq_true rfl)
set_option maxHeartbeats 4000000 in
set_option maxRecDepth 100000 in
theorem law_c3 {p : Program} {l : Launch} {e : Env} {s : State} {m : MethodId} {below : List Frame} {meth : Method} {c : Code} {b : Nat} {xs : Nat → Int32} (hst : l.stackTraces = false) (D : va_G) (C0 : lw_At p s m meth c b 4 xs) (hG : k_G (fun q : Nat => s.heap.size ≤ q) s s.heap) {H : Heap} {locs : List Loc} {ls : Array Slot} (h : law_I D s b H locs ls) : W p l e room_1 s m #[Value.ref b] below meth c H locs 124 2208 (lw_Z below #[Value.ref b] s) (F0 m 329 ls []) := by
  have C1 := C0
  obtain ⟨hx, hb, hr, hml, hown, hts, hX, hbl, hlocks, hgv⟩ := C1
  have hown : s.vm.findClass RL = some m.cls := hown
  have ht : ∀ v9 ∈ wsA, v9.before #[Value.ref b] s = true := fun v9 h9 => hts v9 (wsA_tbl h9)
  have S0 : k_C p s m #[Value.ref b] c cL_law 7 RL := ⟨hx, hb, hml, hown, ht⟩
  have hbA : ¬ (fun q : Nat => s.heap.size ≤ q) b := Nat.not_le.mpr hbl
  have hA : ∀ q : Nat, s.heap.size ≤ q → (fun q : Nat => s.heap.size ≤ q) q := fun _ h9 => h9
  obtain ⟨y1, hy1⟩ : ∃ z9 : Int32, z9 = xs 1 := ⟨_, rfl⟩
  obtain ⟨y2, hy2⟩ : ∃ z9 : Int32, z9 = xs 2 := ⟨_, rfl⟩
  obtain ⟨y3, hy3⟩ : ∃ z9 : Int32, z9 = xs 3 := ⟨_, rfl⟩
  have hs0 : (upd (fun _ => 0) 93 4) 0 = 0 := rfl
  have hs51 : (upd (fun _ => 0) 93 4) 51 = 0 := rfl
  have hs93 : (upd (fun _ => 0) 93 4) 93 = 4 := rfl
  have hs94 : (upd (fun _ => 0) 93 4) 94 = 0 := rfl
  have hs125 : (upd (fun _ => 0) 93 4) 125 = 0 := rfl
  have hs126 : (upd (fun _ => 0) 93 4) 126 = 0 := rfl
  obtain ⟨w, st, la, ld, ldA, lz, lzA, me, meA, li, ln, lnA, ll, llA, lc, lcA, hi, ri, zst, zla, zld, zldA, zlz, zlzA, zme, zmeA, zli, zln, zlnA, zll, zllA, zlc, zlcA, re, rd, rdA, rl, rlA, fo, foA, bu, buA, pa, mo, ms, mb, mlk, mfd, out, rf, K, KS, KC, KL, hrf, hK, hP, hD, hS, hl⟩ := h
  have hl : lv_has ls 7 [(4, .int 0), (3, .ref out), (2, .ref mo), (1, .ref w), (0, .ref b)] := hl
  generalize hAe : (fun q : Nat => s.heap.size ≤ q) = A at hG hD hS hA hbA
  have hP : va_P D vwCl [(w, .inr (7, [.ref st, .ref hi, .ref re, .ref fo, .ref bu, .ref pa])), (st, .inr (6, [.ref la, .ref me, .ref li, .int 4, .int 0, .int 0])), (la, .inr (2, [.ref ld, .ref lz])), (lz, .inr (4, [.ref lzA, .int 0])), (mo, .inr (8, [.ref ms, .int 0, .ref mb, .int 0, .int 0, .ref mlk, .int 0, .ref mfd, .int 0, .int 0, .int 0, .int 0])), (ms, .inl (K, 889, .inl (upd (fun _ => 0) 93 4))), (out, .inl (KL, 1, .inr (.inl (fun _ => 0))))] H := hP.sub [0, 1, 2, 5, 43, 44, 48] rfl
  have hD : va_D A [(w, .inr (7, [.ref st, .ref hi, .ref re, .ref fo, .ref bu, .ref pa])), (st, .inr (6, [.ref la, .ref me, .ref li, .int 4, .int 0, .int 0])), (la, .inr (2, [.ref ld, .ref lz])), (lz, .inr (4, [.ref lzA, .int 0])), (mo, .inr (8, [.ref ms, .int 0, .ref mb, .int 0, .int 0, .ref mlk, .int 0, .ref mfd, .int 0, .int 0, .int 0, .int 0])), (ms, .inl (K, 889, .inl (upd (fun _ => 0) 93 4))), (out, .inl (KL, 1, .inr (.inl (fun _ => 0))))] := hD.sub [0, 1, 2, 5, 43, 44, 48] (by decide) rfl
  refine lv_aload_n hx hb dL_law_329 rfl (lv_at hl 3 rfl) ?_
  refine lv_aload_n hx hb dL_law_330 rfl (lv_at hl 4 rfl) ?_
  refine lv_iload hx hb dL_law_331 (lv_at hl 0 rfl) ?_
  refine lv_iconst (v := 1) hx hb dL_law_333 (by decide) ?_
  refine lv_iadd hx hb dL_law_334 ?_
  refine k_nrm (y := 1) (by decide) ?_
  refine va_sld hx hb hX hbl hbA hS (by unfold vp_in; decide) dL_law_335 ?_
  refine k_nrm (y := y1) (by rw [hy1]; rfl) ?_
  refine lv_aload_n hx hb dL_law_336 rfl (lv_at hl 1 rfl) ?_
  have ct := k_cut_of (wc := [(w, .inr (7, [.ref st, .ref hi, .ref re, .ref fo, .ref bu, .ref pa])), (st, .inr (6, [.ref la, .ref me, .ref li, .int 4, .int 0, .int 0])), (la, .inr (2, [.ref ld, .ref lz])), (lz, .inr (4, [.ref lzA, .int 0])), (out, .inl (KL, 1, .inr (.inl (fun _ => 0))))]) (wr := [(mo, .inr (8, [.ref ms, .int 0, .ref mb, .int 0, .int 0, .ref mlk, .int 0, .ref mfd, .int 0, .int 0, .int 0, .int 0])), (ms, .inl (K, 889, .inl (upd (fun _ => 0) 93 4)))]) (tc := [(KL, .long)]) hG hS hA hK hP hD [0, 1, 2, 3, 6] [4, 5] [3] rfl rfl (by decide) (by decide) (by decide) rfl
  refine k_endi (As := [.ref w, .int y1, .ref out]) ct (k_runSW (As := [.ref w, .int y1, .ref out]) (rest := []) S0 Ls_L_93 ct (c_L_width l hst D w st hi re fo bu pa la me li 4 0 0 ld lz lzA y1 out KL (fun _ => 0) H.size) hl.1 rfl (Nat.le_of_ble_eq_true rfl) rfl dL_law_337 ⟨⟨Nat.le_of_ble_eq_true rfl, Nat.le_of_ble_eq_true rfl⟩, Nat.le_of_ble_eq_true rfl, Nat.le_of_ble_eq_true rfl⟩) rfl rfl (fun r_1 og_2 H locs hw_3 hP hD hK hS => ?_)
  have hK : va_K D vwCl [(K, .int), (KS, .object "BarcodeWand$State"), (KC, .char), (KL, .long)] s := hK
  have hP : va_P D vwCl [(mo, .inr (8, [.ref ms, .int 0, .ref mb, .int 0, .int 0, .ref mlk, .int 0, .ref mfd, .int 0, .int 0, .int 0, .int 0])), (ms, .inl (K, 889, .inl (upd (fun _ => 0) 93 4))), (out, .inl (KL, 1, .inr (.inl og_2)))] H := hP
  have hD : va_D A [(mo, .inr (8, [.ref ms, .int 0, .ref mb, .int 0, .int 0, .ref mlk, .int 0, .ref mfd, .int 0, .int 0, .int 0, .int 0])), (ms, .inl (K, 889, .inl (upd (fun _ => 0) 93 4))), (out, .inl (KL, 1, .inr (.inl og_2)))] := hD
  have hw_3 : r_1 = 1 := hw_3
  have hw_3 := hw_3.symm
  subst hw_3
  refine k_nrm (y := 1) rfl ?_
  refine lv_istore (lv' := [(5, .int 1), (4, .int 0), (3, .ref out), (2, .ref mo), (1, .ref w), (0, .ref b)]) hx hb dL_law_340 hl (by decide) rfl (fun ls hl => ?_)
  refine lv_aload_n hx hb dL_law_342 rfl (lv_at hl 3 rfl) ?_
  refine lv_aload_n hx hb dL_law_343 rfl (lv_at hl 5 rfl) ?_
  refine lv_iload hx hb dL_law_344 (lv_at hl 1 rfl) ?_
  refine lv_iconst (v := 1) hx hb dL_law_346 (by decide) ?_
  refine lv_iadd hx hb dL_law_347 ?_
  refine k_nrm (y := 1) (by decide) ?_
  refine va_sld hx hb hX hbl hbA hS (by unfold vp_in; decide) dL_law_348 ?_
  refine k_nrm (y := y1) (by rw [hy1]; rfl) ?_
  have ct := k_cut_of (wc := [(mo, .inr (8, [.ref ms, .int 0, .ref mb, .int 0, .int 0, .ref mlk, .int 0, .ref mfd, .int 0, .int 0, .int 0, .int 0])), (ms, .inl (K, 889, .inl (upd (fun _ => 0) 93 4)))]) (wr := [(out, .inl (KL, 1, .inr (.inl og_2)))]) (tc := [(K, .int)]) hG hS hA hK hP hD [0, 1] [2] [0] rfl rfl (by decide) (by decide) (by decide) rfl
  refine k_endi (As := [.ref mo, .int y1]) ct (k_runV (As := [.int y1]) (rest := []) S0 Lv_L_96 rfl (ci := 8) (q0 := 0) rfl rfl ct (c_M_width l D mo ms 0 mb 0 mlk 0 mfd 0 0 0 0 K (upd (fun _ => 0) 93 4) y1 (by first | assumption | exact (cpf_lo (by decide)).trans (by assumption)) (by first | assumption | exact (cpf_lo (by decide)).trans (by assumption)) (by first | assumption | exact (cpf_lo (by decide)).trans (by assumption)) (by first | assumption | exact (cpf_lo (by decide)).trans (by assumption)) (by first | assumption | exact (cpf_lo (by decide)).trans (by assumption)) (by first | assumption | exact (cpf_lo (by decide)).trans (by assumption)) H.size) hl.1 rfl (Nat.le_of_ble_eq_true rfl) rfl dL_law_349 ⟨⟨Nat.le_of_ble_eq_true rfl, Nat.le_of_ble_eq_true rfl⟩, Nat.le_of_ble_eq_true rfl, Nat.le_of_ble_eq_true rfl⟩) rfl rfl (fun r_4 _ H locs hw_5 hP hD hK hS => ?_)
  have hK : va_K D vwCl [(K, .int), (KS, .object "BarcodeWand$State"), (KC, .char), (KL, .long)] s := hK
  have hP : va_P D vwCl [(out, .inl (KL, 1, .inr (.inl og_2))), (mo, .inr (8, [.ref ms, .int 0, .ref mb, .int 0, .int 1, .ref mlk, .int 0, .ref mfd, .int 0, .int 0, .int 0, .int 0])), (ms, .inl (K, 889, .inl (upd (fun _ => 0) 93 4)))] H := hP
  have hD : va_D A [(out, .inl (KL, 1, .inr (.inl og_2))), (mo, .inr (8, [.ref ms, .int 0, .ref mb, .int 0, .int 1, .ref mlk, .int 0, .ref mfd, .int 0, .int 0, .int 0, .int 0])), (ms, .inl (K, 889, .inl (upd (fun _ => 0) 93 4)))] := hD
  have hw_5 : r_4 = 0 := hw_5
  have hw_5 := hw_5.symm
  subst hw_5
  refine k_nrm (y := 0) rfl ?_
  refine lv_istore (lv' := [(6, .int 0), (5, .int 1), (4, .int 0), (3, .ref out), (2, .ref mo), (1, .ref w), (0, .ref b)]) hx hb dL_law_352 hl (by decide) rfl (fun ls hl => ?_)
  refine lv_aload_n hx hb dL_law_354 rfl (lv_at hl 4 rfl) ?_
  have ct := k_cut_of (wc := [(mo, .inr (8, [.ref ms, .int 0, .ref mb, .int 0, .int 1, .ref mlk, .int 0, .ref mfd, .int 0, .int 0, .int 0, .int 0]))]) (wr := [(out, .inl (KL, 1, .inr (.inl og_2))), (ms, .inl (K, 889, .inl (upd (fun _ => 0) 93 4)))]) (tc := []) hG hS hA hK hP hD [1] [0, 2] [] rfl rfl (by decide) (by decide) (by decide) rfl
  refine k_endi (As := [.ref mo]) ct (k_runV (As := []) (rest := []) S0 Lv_L_83 rfl (ci := 8) (q0 := 0) rfl rfl ct (c_M_thrown2 l D mo ms 0 mb 0 1 mlk 0 mfd 0 0 0 0 H.size) hl.1 rfl (Nat.le_of_ble_eq_true rfl) rfl dL_law_355 ⟨⟨Nat.le_of_ble_eq_true rfl, Nat.le_of_ble_eq_true rfl⟩, Nat.le_of_ble_eq_true rfl, Nat.le_of_ble_eq_true rfl⟩) rfl rfl (fun r_6 _ H locs hw_7 hP hD hK hS => ?_)
  have hK : va_K D vwCl [(K, .int), (KS, .object "BarcodeWand$State"), (KC, .char), (KL, .long)] s := hK
  have hP : va_P D vwCl [(out, .inl (KL, 1, .inr (.inl og_2))), (ms, .inl (K, 889, .inl (upd (fun _ => 0) 93 4))), (mo, .inr (8, [.ref ms, .int 0, .ref mb, .int 0, .int 1, .ref mlk, .int 0, .ref mfd, .int 0, .int 0, .int 0, .int 0]))] H := hP
  have hD : va_D A [(out, .inl (KL, 1, .inr (.inl og_2))), (ms, .inl (K, 889, .inl (upd (fun _ => 0) 93 4))), (mo, .inr (8, [.ref ms, .int 0, .ref mb, .int 0, .int 1, .ref mlk, .int 0, .ref mfd, .int 0, .int 0, .int 0, .int 0]))] := hD
  have hw_7 : r_6 = 1 := hw_7
  have hw_7 := hw_7.symm
  subst hw_7
  refine k_nrm (y := 1) rfl ?_
  refine lv_iload hx hb dL_law_358 (lv_at hl 1 rfl) ?_
  refine lv_icmp_eq (tgt := 365) hx hb dL_law_360 (by decide) (fun _ => ?_) (fun c9 => absurd (by decide) c9)
  refine lv_iload hx hb dL_law_365 (lv_at hl 1 rfl) ?_
  refine lv_if_ne (tgt := 382) hx hb dL_law_367 (by decide) (fun _ => ?_) (fun c9 => absurd c9 (by decide))
  refine lv_goto (tgt := 1479) hx hb dL_law_382 (by decide) ?_
  exact law_end C0 (by rw [hAe]; exact hS) (lv_sub hl [2, 6] rfl) (Nat.le_of_ble_eq_true rfl) (Nat.le_of_ble_eq_true rfl)
set_option maxHeartbeats 4000000 in
set_option maxRecDepth 100000 in
theorem law_c4 {p : Program} {l : Launch} {e : Env} {s : State} {m : MethodId} {below : List Frame} {meth : Method} {c : Code} {b : Nat} {xs : Nat → Int32} (hst : l.stackTraces = false) (D : va_G) (C0 : lw_At p s m meth c b 4 xs) (hG : k_G (fun q : Nat => s.heap.size ≤ q) s s.heap) {H : Heap} {locs : List Loc} {ls : Array Slot} (h : law_I D s b H locs ls) : W p l e room_1 s m #[Value.ref b] below meth c H locs 124 2208 (lw_Z below #[Value.ref b] s) (F0 m 385 ls []) := by
  have C1 := C0
  obtain ⟨hx, hb, hr, hml, hown, hts, hX, hbl, hlocks, hgv⟩ := C1
  have hown : s.vm.findClass RL = some m.cls := hown
  have ht : ∀ v9 ∈ wsA, v9.before #[Value.ref b] s = true := fun v9 h9 => hts v9 (wsA_tbl h9)
  have S0 : k_C p s m #[Value.ref b] c cL_law 7 RL := ⟨hx, hb, hml, hown, ht⟩
  have hbA : ¬ (fun q : Nat => s.heap.size ≤ q) b := Nat.not_le.mpr hbl
  have hA : ∀ q : Nat, s.heap.size ≤ q → (fun q : Nat => s.heap.size ≤ q) q := fun _ h9 => h9
  obtain ⟨y1, hy1⟩ : ∃ z9 : Int32, z9 = xs 1 := ⟨_, rfl⟩
  obtain ⟨y2, hy2⟩ : ∃ z9 : Int32, z9 = xs 2 := ⟨_, rfl⟩
  obtain ⟨y3, hy3⟩ : ∃ z9 : Int32, z9 = xs 3 := ⟨_, rfl⟩
  have hs0 : (upd (fun _ => 0) 93 4) 0 = 0 := rfl
  have hs51 : (upd (fun _ => 0) 93 4) 51 = 0 := rfl
  have hs93 : (upd (fun _ => 0) 93 4) 93 = 4 := rfl
  have hs94 : (upd (fun _ => 0) 93 4) 94 = 0 := rfl
  have hs125 : (upd (fun _ => 0) 93 4) 125 = 0 := rfl
  have hs126 : (upd (fun _ => 0) 93 4) 126 = 0 := rfl
  obtain ⟨w, st, la, ld, ldA, lz, lzA, me, meA, li, ln, lnA, ll, llA, lc, lcA, hi, ri, zst, zla, zld, zldA, zlz, zlzA, zme, zmeA, zli, zln, zlnA, zll, zllA, zlc, zlcA, re, rd, rdA, rl, rlA, fo, foA, bu, buA, pa, mo, ms, mb, mlk, mfd, out, rf, K, KS, KC, KL, hrf, hK, hP, hD, hS, hl⟩ := h
  have hl : lv_has ls 7 [(4, .int 0), (3, .ref out), (2, .ref mo), (1, .ref w), (0, .ref b)] := hl
  generalize hAe : (fun q : Nat => s.heap.size ≤ q) = A at hG hD hS hA hbA
  have hP : va_P D vwCl [(w, .inr (7, [.ref st, .ref hi, .ref re, .ref fo, .ref bu, .ref pa])), (st, .inr (6, [.ref la, .ref me, .ref li, .int 4, .int 0, .int 0])), (la, .inr (2, [.ref ld, .ref lz])), (ld, .inr (4, [.ref ldA, .int 0])), (mo, .inr (8, [.ref ms, .int 0, .ref mb, .int 0, .int 0, .ref mlk, .int 0, .ref mfd, .int 0, .int 0, .int 0, .int 0])), (ms, .inl (K, 889, .inl (upd (fun _ => 0) 93 4))), (out, .inl (KL, 1, .inr (.inl (fun _ => 0))))] H := hP.sub [0, 1, 2, 3, 43, 44, 48] rfl
  have hD : va_D A [(w, .inr (7, [.ref st, .ref hi, .ref re, .ref fo, .ref bu, .ref pa])), (st, .inr (6, [.ref la, .ref me, .ref li, .int 4, .int 0, .int 0])), (la, .inr (2, [.ref ld, .ref lz])), (ld, .inr (4, [.ref ldA, .int 0])), (mo, .inr (8, [.ref ms, .int 0, .ref mb, .int 0, .int 0, .ref mlk, .int 0, .ref mfd, .int 0, .int 0, .int 0, .int 0])), (ms, .inl (K, 889, .inl (upd (fun _ => 0) 93 4))), (out, .inl (KL, 1, .inr (.inl (fun _ => 0))))] := hD.sub [0, 1, 2, 3, 43, 44, 48] (by decide) rfl
  refine lv_aload_n hx hb dL_law_385 rfl (lv_at hl 3 rfl) ?_
  refine lv_aload_n hx hb dL_law_386 rfl (lv_at hl 4 rfl) ?_
  refine lv_iload hx hb dL_law_387 (lv_at hl 0 rfl) ?_
  refine lv_iconst (v := 1) hx hb dL_law_389 (by decide) ?_
  refine lv_iadd hx hb dL_law_390 ?_
  refine k_nrm (y := 1) (by decide) ?_
  refine va_sld hx hb hX hbl hbA hS (by unfold vp_in; decide) dL_law_391 ?_
  refine k_nrm (y := y1) (by rw [hy1]; rfl) ?_
  refine lv_aload_n hx hb dL_law_392 rfl (lv_at hl 1 rfl) ?_
  have ct := k_cut_of (wc := [(w, .inr (7, [.ref st, .ref hi, .ref re, .ref fo, .ref bu, .ref pa])), (st, .inr (6, [.ref la, .ref me, .ref li, .int 4, .int 0, .int 0])), (la, .inr (2, [.ref ld, .ref lz])), (ld, .inr (4, [.ref ldA, .int 0])), (out, .inl (KL, 1, .inr (.inl (fun _ => 0))))]) (wr := [(mo, .inr (8, [.ref ms, .int 0, .ref mb, .int 0, .int 0, .ref mlk, .int 0, .ref mfd, .int 0, .int 0, .int 0, .int 0])), (ms, .inl (K, 889, .inl (upd (fun _ => 0) 93 4)))]) (tc := [(KL, .long)]) hG hS hA hK hP hD [0, 1, 2, 3, 6] [4, 5] [3] rfl rfl (by decide) (by decide) (by decide) rfl
  refine k_endi (As := [.ref w, .int y1, .ref out]) ct (k_runSW (As := [.ref w, .int y1, .ref out]) (rest := []) S0 Ls_L_97 ct (c_L_labelDigit l hst D w st hi re fo bu pa la me li 4 0 0 ld lz ldA y1 out KL (fun _ => 0) H.size) hl.1 rfl (Nat.le_of_ble_eq_true rfl) rfl dL_law_393 ⟨⟨Nat.le_of_ble_eq_true rfl, Nat.le_of_ble_eq_true rfl⟩, Nat.le_of_ble_eq_true rfl, Nat.le_of_ble_eq_true rfl⟩) rfl rfl (fun r_1 og_2 H locs hw_3 hP hD hK hS => ?_)
  have hK : va_K D vwCl [(K, .int), (KS, .object "BarcodeWand$State"), (KC, .char), (KL, .long)] s := hK
  have hP : va_P D vwCl [(mo, .inr (8, [.ref ms, .int 0, .ref mb, .int 0, .int 0, .ref mlk, .int 0, .ref mfd, .int 0, .int 0, .int 0, .int 0])), (ms, .inl (K, 889, .inl (upd (fun _ => 0) 93 4))), (out, .inl (KL, 1, .inr (.inl og_2)))] H := hP
  have hD : va_D A [(mo, .inr (8, [.ref ms, .int 0, .ref mb, .int 0, .int 0, .ref mlk, .int 0, .ref mfd, .int 0, .int 0, .int 0, .int 0])), (ms, .inl (K, 889, .inl (upd (fun _ => 0) 93 4))), (out, .inl (KL, 1, .inr (.inl og_2)))] := hD
  have hw_3 : r_1 = 1 := hw_3
  have hw_3 := hw_3.symm
  subst hw_3
  refine k_nrm (y := 1) rfl ?_
  refine lv_istore (lv' := [(5, .int 1), (4, .int 0), (3, .ref out), (2, .ref mo), (1, .ref w), (0, .ref b)]) hx hb dL_law_396 hl (by decide) rfl (fun ls hl => ?_)
  refine lv_aload_n hx hb dL_law_398 rfl (lv_at hl 3 rfl) ?_
  refine lv_aload_n hx hb dL_law_399 rfl (lv_at hl 5 rfl) ?_
  refine lv_iload hx hb dL_law_400 (lv_at hl 1 rfl) ?_
  refine lv_iconst (v := 1) hx hb dL_law_402 (by decide) ?_
  refine lv_iadd hx hb dL_law_403 ?_
  refine k_nrm (y := 1) (by decide) ?_
  refine va_sld hx hb hX hbl hbA hS (by unfold vp_in; decide) dL_law_404 ?_
  refine k_nrm (y := y1) (by rw [hy1]; rfl) ?_
  have ct := k_cut_of (wc := [(mo, .inr (8, [.ref ms, .int 0, .ref mb, .int 0, .int 0, .ref mlk, .int 0, .ref mfd, .int 0, .int 0, .int 0, .int 0])), (ms, .inl (K, 889, .inl (upd (fun _ => 0) 93 4)))]) (wr := [(out, .inl (KL, 1, .inr (.inl og_2)))]) (tc := [(K, .int)]) hG hS hA hK hP hD [0, 1] [2] [0] rfl rfl (by decide) (by decide) (by decide) rfl
  refine k_endi (As := [.ref mo, .int y1]) ct (k_runV (As := [.int y1]) (rest := []) S0 Lv_L_99 rfl (ci := 8) (q0 := 0) rfl rfl ct (c_M_labelDigit l D mo ms 0 mb 0 mlk 0 mfd 0 0 0 0 K (upd (fun _ => 0) 93 4) y1 (by first | assumption | exact (cpf_lo (by decide)).trans (by assumption)) (by first | assumption | exact (cpf_lo (by decide)).trans (by assumption)) (by first | assumption | exact (cpf_lo (by decide)).trans (by assumption)) (by first | assumption | exact (cpf_lo (by decide)).trans (by assumption)) (by first | assumption | exact (cpf_lo (by decide)).trans (by assumption)) (by first | assumption | exact (cpf_lo (by decide)).trans (by assumption)) H.size) hl.1 rfl (Nat.le_of_ble_eq_true rfl) rfl dL_law_405 ⟨⟨Nat.le_of_ble_eq_true rfl, Nat.le_of_ble_eq_true rfl⟩, Nat.le_of_ble_eq_true rfl, Nat.le_of_ble_eq_true rfl⟩) rfl rfl (fun r_4 _ H locs hw_5 hP hD hK hS => ?_)
  have hK : va_K D vwCl [(K, .int), (KS, .object "BarcodeWand$State"), (KC, .char), (KL, .long)] s := hK
  have hP : va_P D vwCl [(out, .inl (KL, 1, .inr (.inl og_2))), (mo, .inr (8, [.ref ms, .int 0, .ref mb, .int 0, .int 1, .ref mlk, .int 0, .ref mfd, .int 0, .int 0, .int 0, .int 0])), (ms, .inl (K, 889, .inl (upd (fun _ => 0) 93 4)))] H := hP
  have hD : va_D A [(out, .inl (KL, 1, .inr (.inl og_2))), (mo, .inr (8, [.ref ms, .int 0, .ref mb, .int 0, .int 1, .ref mlk, .int 0, .ref mfd, .int 0, .int 0, .int 0, .int 0])), (ms, .inl (K, 889, .inl (upd (fun _ => 0) 93 4)))] := hD
  have hw_5 : r_4 = 0 := hw_5
  have hw_5 := hw_5.symm
  subst hw_5
  refine k_nrm (y := 0) rfl ?_
  refine lv_istore (lv' := [(6, .int 0), (5, .int 1), (4, .int 0), (3, .ref out), (2, .ref mo), (1, .ref w), (0, .ref b)]) hx hb dL_law_408 hl (by decide) rfl (fun ls hl => ?_)
  refine lv_aload_n hx hb dL_law_410 rfl (lv_at hl 4 rfl) ?_
  have ct := k_cut_of (wc := [(mo, .inr (8, [.ref ms, .int 0, .ref mb, .int 0, .int 1, .ref mlk, .int 0, .ref mfd, .int 0, .int 0, .int 0, .int 0]))]) (wr := [(out, .inl (KL, 1, .inr (.inl og_2))), (ms, .inl (K, 889, .inl (upd (fun _ => 0) 93 4)))]) (tc := []) hG hS hA hK hP hD [1] [0, 2] [] rfl rfl (by decide) (by decide) (by decide) rfl
  refine k_endi (As := [.ref mo]) ct (k_runV (As := []) (rest := []) S0 Lv_L_83 rfl (ci := 8) (q0 := 0) rfl rfl ct (c_M_thrown2 l D mo ms 0 mb 0 1 mlk 0 mfd 0 0 0 0 H.size) hl.1 rfl (Nat.le_of_ble_eq_true rfl) rfl dL_law_411 ⟨⟨Nat.le_of_ble_eq_true rfl, Nat.le_of_ble_eq_true rfl⟩, Nat.le_of_ble_eq_true rfl, Nat.le_of_ble_eq_true rfl⟩) rfl rfl (fun r_6 _ H locs hw_7 hP hD hK hS => ?_)
  have hK : va_K D vwCl [(K, .int), (KS, .object "BarcodeWand$State"), (KC, .char), (KL, .long)] s := hK
  have hP : va_P D vwCl [(out, .inl (KL, 1, .inr (.inl og_2))), (ms, .inl (K, 889, .inl (upd (fun _ => 0) 93 4))), (mo, .inr (8, [.ref ms, .int 0, .ref mb, .int 0, .int 1, .ref mlk, .int 0, .ref mfd, .int 0, .int 0, .int 0, .int 0]))] H := hP
  have hD : va_D A [(out, .inl (KL, 1, .inr (.inl og_2))), (ms, .inl (K, 889, .inl (upd (fun _ => 0) 93 4))), (mo, .inr (8, [.ref ms, .int 0, .ref mb, .int 0, .int 1, .ref mlk, .int 0, .ref mfd, .int 0, .int 0, .int 0, .int 0]))] := hD
  have hw_7 : r_6 = 1 := hw_7
  have hw_7 := hw_7.symm
  subst hw_7
  refine k_nrm (y := 1) rfl ?_
  refine lv_iload hx hb dL_law_414 (lv_at hl 1 rfl) ?_
  refine lv_icmp_eq (tgt := 421) hx hb dL_law_416 (by decide) (fun _ => ?_) (fun c9 => absurd (by decide) c9)
  refine lv_iload hx hb dL_law_421 (lv_at hl 1 rfl) ?_
  refine lv_if_ne (tgt := 438) hx hb dL_law_423 (by decide) (fun _ => ?_) (fun c9 => absurd c9 (by decide))
  refine lv_goto (tgt := 1479) hx hb dL_law_438 (by decide) ?_
  exact law_end C0 (by rw [hAe]; exact hS) (lv_sub hl [2, 6] rfl) (Nat.le_of_ble_eq_true rfl) (Nat.le_of_ble_eq_true rfl)
set_option maxHeartbeats 4000000 in
set_option maxRecDepth 100000 in
theorem law_c5 {p : Program} {l : Launch} {e : Env} {s : State} {m : MethodId} {below : List Frame} {meth : Method} {c : Code} {b : Nat} {xs : Nat → Int32} (hst : l.stackTraces = false) (D : va_G) (C0 : lw_At p s m meth c b 4 xs) (hG : k_G (fun q : Nat => s.heap.size ≤ q) s s.heap) {H : Heap} {locs : List Loc} {ls : Array Slot} (h : law_I D s b H locs ls) : W p l e room_1 s m #[Value.ref b] below meth c H locs 124 2208 (lw_Z below #[Value.ref b] s) (F0 m 441 ls []) := by
  have C1 := C0
  obtain ⟨hx, hb, hr, hml, hown, hts, hX, hbl, hlocks, hgv⟩ := C1
  have hown : s.vm.findClass RL = some m.cls := hown
  have ht : ∀ v9 ∈ wsA, v9.before #[Value.ref b] s = true := fun v9 h9 => hts v9 (wsA_tbl h9)
  have S0 : k_C p s m #[Value.ref b] c cL_law 7 RL := ⟨hx, hb, hml, hown, ht⟩
  have hbA : ¬ (fun q : Nat => s.heap.size ≤ q) b := Nat.not_le.mpr hbl
  have hA : ∀ q : Nat, s.heap.size ≤ q → (fun q : Nat => s.heap.size ≤ q) q := fun _ h9 => h9
  obtain ⟨y1, hy1⟩ : ∃ z9 : Int32, z9 = xs 1 := ⟨_, rfl⟩
  obtain ⟨y2, hy2⟩ : ∃ z9 : Int32, z9 = xs 2 := ⟨_, rfl⟩
  obtain ⟨y3, hy3⟩ : ∃ z9 : Int32, z9 = xs 3 := ⟨_, rfl⟩
  have hs0 : (upd (fun _ => 0) 93 4) 0 = 0 := rfl
  have hs51 : (upd (fun _ => 0) 93 4) 51 = 0 := rfl
  have hs93 : (upd (fun _ => 0) 93 4) 93 = 4 := rfl
  have hs94 : (upd (fun _ => 0) 93 4) 94 = 0 := rfl
  have hs125 : (upd (fun _ => 0) 93 4) 125 = 0 := rfl
  have hs126 : (upd (fun _ => 0) 93 4) 126 = 0 := rfl
  obtain ⟨w, st, la, ld, ldA, lz, lzA, me, meA, li, ln, lnA, ll, llA, lc, lcA, hi, ri, zst, zla, zld, zldA, zlz, zlzA, zme, zmeA, zli, zln, zlnA, zll, zllA, zlc, zlcA, re, rd, rdA, rl, rlA, fo, foA, bu, buA, pa, mo, ms, mb, mlk, mfd, out, rf, K, KS, KC, KL, hrf, hK, hP, hD, hS, hl⟩ := h
  have hl : lv_has ls 7 [(4, .int 0), (3, .ref out), (2, .ref mo), (1, .ref w), (0, .ref b)] := hl
  generalize hAe : (fun q : Nat => s.heap.size ≤ q) = A at hG hD hS hA hbA
  have hP : va_P D vwCl [(w, .inr (7, [.ref st, .ref hi, .ref re, .ref fo, .ref bu, .ref pa])), (st, .inr (6, [.ref la, .ref me, .ref li, .int 4, .int 0, .int 0])), (la, .inr (2, [.ref ld, .ref lz])), (lz, .inr (4, [.ref lzA, .int 0])), (mo, .inr (8, [.ref ms, .int 0, .ref mb, .int 0, .int 0, .ref mlk, .int 0, .ref mfd, .int 0, .int 0, .int 0, .int 0])), (ms, .inl (K, 889, .inl (upd (fun _ => 0) 93 4))), (out, .inl (KL, 1, .inr (.inl (fun _ => 0))))] H := hP.sub [0, 1, 2, 5, 43, 44, 48] rfl
  have hD : va_D A [(w, .inr (7, [.ref st, .ref hi, .ref re, .ref fo, .ref bu, .ref pa])), (st, .inr (6, [.ref la, .ref me, .ref li, .int 4, .int 0, .int 0])), (la, .inr (2, [.ref ld, .ref lz])), (lz, .inr (4, [.ref lzA, .int 0])), (mo, .inr (8, [.ref ms, .int 0, .ref mb, .int 0, .int 0, .ref mlk, .int 0, .ref mfd, .int 0, .int 0, .int 0, .int 0])), (ms, .inl (K, 889, .inl (upd (fun _ => 0) 93 4))), (out, .inl (KL, 1, .inr (.inl (fun _ => 0))))] := hD.sub [0, 1, 2, 5, 43, 44, 48] (by decide) rfl
  refine lv_aload_n hx hb dL_law_441 rfl (lv_at hl 3 rfl) ?_
  refine lv_aload_n hx hb dL_law_442 rfl (lv_at hl 4 rfl) ?_
  refine lv_iload hx hb dL_law_443 (lv_at hl 0 rfl) ?_
  refine lv_iconst (v := 1) hx hb dL_law_445 (by decide) ?_
  refine lv_iadd hx hb dL_law_446 ?_
  refine k_nrm (y := 1) (by decide) ?_
  refine va_sld hx hb hX hbl hbA hS (by unfold vp_in; decide) dL_law_447 ?_
  refine k_nrm (y := y1) (by rw [hy1]; rfl) ?_
  refine lv_aload_n hx hb dL_law_448 rfl (lv_at hl 4 rfl) ?_
  refine lv_iload hx hb dL_law_449 (lv_at hl 0 rfl) ?_
  refine lv_iconst (v := 2) hx hb dL_law_451 (by decide) ?_
  refine lv_iadd hx hb dL_law_452 ?_
  refine k_nrm (y := 2) (by decide) ?_
  refine va_sld hx hb hX hbl hbA hS (by unfold vp_in; decide) dL_law_453 ?_
  refine k_nrm (y := y2) (by rw [hy2]; rfl) ?_
  refine lv_aload_n hx hb dL_law_454 rfl (lv_at hl 4 rfl) ?_
  refine lv_iload hx hb dL_law_455 (lv_at hl 0 rfl) ?_
  refine lv_iconst (v := 3) hx hb dL_law_457 (by decide) ?_
  refine lv_iadd hx hb dL_law_458 ?_
  refine k_nrm (y := 3) (by decide) ?_
  refine va_sld hx hb hX hbl hbA hS (by unfold vp_in; decide) dL_law_459 ?_
  refine k_nrm (y := y3) (by rw [hy3]; rfl) ?_
  refine lv_if_eq (tgt := 467) hx hb dL_law_460 (by decide) (fun c_1 => ?_) (fun c_1 => ?_)
  · have hc9 := c_1
    refine lv_iconst (v := 0) hx hb dL_law_467 (by decide) ?_
    refine lv_aload_n hx hb dL_law_468 rfl (lv_at hl 1 rfl) ?_
    have ct := k_cut_of (wc := [(w, .inr (7, [.ref st, .ref hi, .ref re, .ref fo, .ref bu, .ref pa])), (st, .inr (6, [.ref la, .ref me, .ref li, .int 4, .int 0, .int 0])), (la, .inr (2, [.ref ld, .ref lz])), (lz, .inr (4, [.ref lzA, .int 0])), (out, .inl (KL, 1, .inr (.inl (fun _ => 0))))]) (wr := [(mo, .inr (8, [.ref ms, .int 0, .ref mb, .int 0, .int 0, .ref mlk, .int 0, .ref mfd, .int 0, .int 0, .int 0, .int 0])), (ms, .inl (K, 889, .inl (upd (fun _ => 0) 93 4)))]) (tc := [(KL, .long)]) hG hS hA hK hP hD [0, 1, 2, 3, 6] [4, 5] [3] rfl rfl (by decide) (by decide) (by decide) rfl
    refine k_endi (As := [.ref w, .int y1, .int y2, .int 0, .ref out]) ct (k_runSW (As := [.ref w, .int y1, .int y2, .int 0, .ref out]) (rest := []) S0 Ls_L_100 ct (c_L_draw l hst D w st hi re fo bu pa la me li 4 0 0 ld lz lzA y1 y2 0 out KL (fun _ => 0) H.size) hl.1 rfl (Nat.le_of_ble_eq_true rfl) rfl dL_law_469 ⟨⟨Nat.le_of_ble_eq_true rfl, Nat.le_of_ble_eq_true rfl⟩, Nat.le_of_ble_eq_true rfl, Nat.le_of_ble_eq_true rfl⟩) rfl rfl (fun r_2 og_3 H locs hw_4 hP hD hK hS => ?_)
    have hK : va_K D vwCl [(K, .int), (KS, .object "BarcodeWand$State"), (KC, .char), (KL, .long)] s := hK
    have hP : va_P D vwCl [(mo, .inr (8, [.ref ms, .int 0, .ref mb, .int 0, .int 0, .ref mlk, .int 0, .ref mfd, .int 0, .int 0, .int 0, .int 0])), (ms, .inl (K, 889, .inl (upd (fun _ => 0) 93 4))), (out, .inl (KL, 1, .inr (.inl og_3)))] H := hP
    have hD : va_D A [(mo, .inr (8, [.ref ms, .int 0, .ref mb, .int 0, .int 0, .ref mlk, .int 0, .ref mfd, .int 0, .int 0, .int 0, .int 0])), (ms, .inl (K, 889, .inl (upd (fun _ => 0) 93 4))), (out, .inl (KL, 1, .inr (.inl og_3)))] := hD
    rcases hw_4 with ⟨c_5, rfl⟩ | ⟨c_6, rfl⟩
    · skip
      refine lv_istore (lv' := [(5, .int 2), (4, .int 0), (3, .ref out), (2, .ref mo), (1, .ref w), (0, .ref b)]) hx hb dL_law_472 hl (by decide) rfl (fun ls hl => ?_)
      refine lv_aload_n hx hb dL_law_474 rfl (lv_at hl 3 rfl) ?_
      refine lv_aload_n hx hb dL_law_475 rfl (lv_at hl 5 rfl) ?_
      refine lv_iload hx hb dL_law_476 (lv_at hl 1 rfl) ?_
      refine lv_iconst (v := 1) hx hb dL_law_478 (by decide) ?_
      refine lv_iadd hx hb dL_law_479 ?_
      refine k_nrm (y := 1) (by decide) ?_
      refine va_sld hx hb hX hbl hbA hS (by unfold vp_in; decide) dL_law_480 ?_
      refine k_nrm (y := y1) (by rw [hy1]; rfl) ?_
      refine lv_aload_n hx hb dL_law_481 rfl (lv_at hl 5 rfl) ?_
      refine lv_iload hx hb dL_law_482 (lv_at hl 1 rfl) ?_
      refine lv_iconst (v := 2) hx hb dL_law_484 (by decide) ?_
      refine lv_iadd hx hb dL_law_485 ?_
      refine k_nrm (y := 2) (by decide) ?_
      refine va_sld hx hb hX hbl hbA hS (by unfold vp_in; decide) dL_law_486 ?_
      refine k_nrm (y := y2) (by rw [hy2]; rfl) ?_
      refine lv_aload_n hx hb dL_law_487 rfl (lv_at hl 5 rfl) ?_
      refine lv_iload hx hb dL_law_488 (lv_at hl 1 rfl) ?_
      refine lv_iconst (v := 3) hx hb dL_law_490 (by decide) ?_
      refine lv_iadd hx hb dL_law_491 ?_
      refine k_nrm (y := 3) (by decide) ?_
      refine va_sld hx hb hX hbl hbA hS (by unfold vp_in; decide) dL_law_492 ?_
      refine k_nrm (y := y3) (by rw [hy3]; rfl) ?_
      refine lv_if_eq (tgt := 500) hx hb dL_law_493 (by decide) (fun c_7 => ?_) (fun c9 => absurd c_1 c9)
      refine lv_iconst (v := 0) hx hb dL_law_500 (by decide) ?_
      have ct := k_cut_of (wc := [(mo, .inr (8, [.ref ms, .int 0, .ref mb, .int 0, .int 0, .ref mlk, .int 0, .ref mfd, .int 0, .int 0, .int 0, .int 0])), (ms, .inl (K, 889, .inl (upd (fun _ => 0) 93 4)))]) (wr := [(out, .inl (KL, 1, .inr (.inl og_3)))]) (tc := [(K, .int)]) hG hS hA hK hP hD [0, 1] [2] [0] rfl rfl (by decide) (by decide) (by decide) rfl
      refine k_endi (As := [.ref mo, .int y1, .int y2, .int 0]) ct (k_runV (As := [.int y1, .int y2, .int 0]) (rest := []) S0 Lv_L_103 rfl (ci := 8) (q0 := 0) rfl rfl ct (c_M_draw l D mo ms 0 mb 0 mlk 0 mfd 0 0 0 0 K (upd (fun _ => 0) 93 4) y1 y2 0 (by first | assumption | exact (cpf_lo (by decide)).trans (by assumption)) (by first | assumption | exact (cpf_lo (by decide)).trans (by assumption)) (by first | assumption | exact (cpf_lo (by decide)).trans (by assumption)) (by first | assumption | exact (cpf_lo (by decide)).trans (by assumption)) (by first | assumption | exact (cpf_lo (by decide)).trans (by assumption)) (by first | assumption | exact (cpf_lo (by decide)).trans (by assumption)) H.size) hl.1 rfl (Nat.le_of_ble_eq_true rfl) rfl dL_law_501 ⟨⟨Nat.le_of_ble_eq_true rfl, Nat.le_of_ble_eq_true rfl⟩, Nat.le_of_ble_eq_true rfl, Nat.le_of_ble_eq_true rfl⟩) rfl rfl (fun r_8 th1v_9 H locs hw_10 hP hD hK hS => ?_)
      have hK : va_K D vwCl [(K, .int), (KS, .object "BarcodeWand$State"), (KC, .char), (KL, .long)] s := hK
      have hP : va_P D vwCl [(out, .inl (KL, 1, .inr (.inl og_3))), (mo, .inr (8, [.ref ms, .int 0, .ref mb, .int 0, .int th1v_9, .ref mlk, .int 0, .ref mfd, .int 0, .int 0, .int 0, .int 0])), (ms, .inl (K, 889, .inl (upd (fun _ => 0) 93 4)))] H := hP
      have hD : va_D A [(out, .inl (KL, 1, .inr (.inl og_3))), (mo, .inr (8, [.ref ms, .int 0, .ref mb, .int 0, .int th1v_9, .ref mlk, .int 0, .ref mfd, .int 0, .int 0, .int 0, .int 0])), (ms, .inl (K, 889, .inl (upd (fun _ => 0) 93 4)))] := hD
      rcases hw_10 with ⟨c_11, rfl⟩ | ⟨c_12, rfl⟩
      · skip
        refine lv_istore (lv' := [(6, .int r_8), (5, .int 2), (4, .int 0), (3, .ref out), (2, .ref mo), (1, .ref w), (0, .ref b)]) hx hb dL_law_504 hl (by decide) rfl (fun ls hl => ?_)
        refine lv_aload_n hx hb dL_law_506 rfl (lv_at hl 4 rfl) ?_
        have ct := k_cut_of (wc := [(mo, .inr (8, [.ref ms, .int 0, .ref mb, .int 0, .int 2, .ref mlk, .int 0, .ref mfd, .int 0, .int 0, .int 0, .int 0]))]) (wr := [(out, .inl (KL, 1, .inr (.inl og_3))), (ms, .inl (K, 889, .inl (upd (fun _ => 0) 93 4)))]) (tc := []) hG hS hA hK hP hD [1] [0, 2] [] rfl rfl (by decide) (by decide) (by decide) rfl
        refine k_endi (As := [.ref mo]) ct (k_runV (As := []) (rest := []) S0 Lv_L_83 rfl (ci := 8) (q0 := 0) rfl rfl ct (c_M_thrown2 l D mo ms 0 mb 0 2 mlk 0 mfd 0 0 0 0 H.size) hl.1 rfl (Nat.le_of_ble_eq_true rfl) rfl dL_law_507 ⟨⟨Nat.le_of_ble_eq_true rfl, Nat.le_of_ble_eq_true rfl⟩, Nat.le_of_ble_eq_true rfl, Nat.le_of_ble_eq_true rfl⟩) rfl rfl (fun r_13 _ H locs hw_14 hP hD hK hS => ?_)
        have hK : va_K D vwCl [(K, .int), (KS, .object "BarcodeWand$State"), (KC, .char), (KL, .long)] s := hK
        have hP : va_P D vwCl [(out, .inl (KL, 1, .inr (.inl og_3))), (ms, .inl (K, 889, .inl (upd (fun _ => 0) 93 4))), (mo, .inr (8, [.ref ms, .int 0, .ref mb, .int 0, .int 2, .ref mlk, .int 0, .ref mfd, .int 0, .int 0, .int 0, .int 0]))] H := hP
        have hD : va_D A [(out, .inl (KL, 1, .inr (.inl og_3))), (ms, .inl (K, 889, .inl (upd (fun _ => 0) 93 4))), (mo, .inr (8, [.ref ms, .int 0, .ref mb, .int 0, .int 2, .ref mlk, .int 0, .ref mfd, .int 0, .int 0, .int 0, .int 0]))] := hD
        have hw_14 : r_13 = 2 := hw_14
        have hw_14 := hw_14.symm
        subst hw_14
        refine k_nrm (y := 2) rfl ?_
        refine lv_iload hx hb dL_law_510 (lv_at hl 1 rfl) ?_
        refine lv_icmp_eq (tgt := 517) hx hb dL_law_512 (by decide) (fun _ => ?_) (fun c9 => absurd (by decide) c9)
        refine lv_iload hx hb dL_law_517 (lv_at hl 1 rfl) ?_
        refine lv_if_ne (tgt := 534) hx hb dL_law_519 (by decide) (fun _ => ?_) (fun c9 => absurd c9 (by decide))
        refine lv_goto (tgt := 1479) hx hb dL_law_534 (by decide) ?_
        exact law_end C0 (by rw [hAe]; exact hS) (lv_sub hl [2, 6] rfl) (Nat.le_of_ble_eq_true rfl) (Nat.le_of_ble_eq_true rfl)
      · skip
        exact absurd c_5 c_12
    · skip
      refine lv_istore (lv' := [(5, .int 1), (4, .int 0), (3, .ref out), (2, .ref mo), (1, .ref w), (0, .ref b)]) hx hb dL_law_472 hl (by decide) rfl (fun ls hl => ?_)
      refine lv_aload_n hx hb dL_law_474 rfl (lv_at hl 3 rfl) ?_
      refine lv_aload_n hx hb dL_law_475 rfl (lv_at hl 5 rfl) ?_
      refine lv_iload hx hb dL_law_476 (lv_at hl 1 rfl) ?_
      refine lv_iconst (v := 1) hx hb dL_law_478 (by decide) ?_
      refine lv_iadd hx hb dL_law_479 ?_
      refine k_nrm (y := 1) (by decide) ?_
      refine va_sld hx hb hX hbl hbA hS (by unfold vp_in; decide) dL_law_480 ?_
      refine k_nrm (y := y1) (by rw [hy1]; rfl) ?_
      refine lv_aload_n hx hb dL_law_481 rfl (lv_at hl 5 rfl) ?_
      refine lv_iload hx hb dL_law_482 (lv_at hl 1 rfl) ?_
      refine lv_iconst (v := 2) hx hb dL_law_484 (by decide) ?_
      refine lv_iadd hx hb dL_law_485 ?_
      refine k_nrm (y := 2) (by decide) ?_
      refine va_sld hx hb hX hbl hbA hS (by unfold vp_in; decide) dL_law_486 ?_
      refine k_nrm (y := y2) (by rw [hy2]; rfl) ?_
      refine lv_aload_n hx hb dL_law_487 rfl (lv_at hl 5 rfl) ?_
      refine lv_iload hx hb dL_law_488 (lv_at hl 1 rfl) ?_
      refine lv_iconst (v := 3) hx hb dL_law_490 (by decide) ?_
      refine lv_iadd hx hb dL_law_491 ?_
      refine k_nrm (y := 3) (by decide) ?_
      refine va_sld hx hb hX hbl hbA hS (by unfold vp_in; decide) dL_law_492 ?_
      refine k_nrm (y := y3) (by rw [hy3]; rfl) ?_
      refine lv_if_eq (tgt := 500) hx hb dL_law_493 (by decide) (fun c_15 => ?_) (fun c9 => absurd c_1 c9)
      refine lv_iconst (v := 0) hx hb dL_law_500 (by decide) ?_
      have ct := k_cut_of (wc := [(mo, .inr (8, [.ref ms, .int 0, .ref mb, .int 0, .int 0, .ref mlk, .int 0, .ref mfd, .int 0, .int 0, .int 0, .int 0])), (ms, .inl (K, 889, .inl (upd (fun _ => 0) 93 4)))]) (wr := [(out, .inl (KL, 1, .inr (.inl og_3)))]) (tc := [(K, .int)]) hG hS hA hK hP hD [0, 1] [2] [0] rfl rfl (by decide) (by decide) (by decide) rfl
      refine k_endi (As := [.ref mo, .int y1, .int y2, .int 0]) ct (k_runV (As := [.int y1, .int y2, .int 0]) (rest := []) S0 Lv_L_103 rfl (ci := 8) (q0 := 0) rfl rfl ct (c_M_draw l D mo ms 0 mb 0 mlk 0 mfd 0 0 0 0 K (upd (fun _ => 0) 93 4) y1 y2 0 (by first | assumption | exact (cpf_lo (by decide)).trans (by assumption)) (by first | assumption | exact (cpf_lo (by decide)).trans (by assumption)) (by first | assumption | exact (cpf_lo (by decide)).trans (by assumption)) (by first | assumption | exact (cpf_lo (by decide)).trans (by assumption)) (by first | assumption | exact (cpf_lo (by decide)).trans (by assumption)) (by first | assumption | exact (cpf_lo (by decide)).trans (by assumption)) H.size) hl.1 rfl (Nat.le_of_ble_eq_true rfl) rfl dL_law_501 ⟨⟨Nat.le_of_ble_eq_true rfl, Nat.le_of_ble_eq_true rfl⟩, Nat.le_of_ble_eq_true rfl, Nat.le_of_ble_eq_true rfl⟩) rfl rfl (fun r_16 th1v_17 H locs hw_18 hP hD hK hS => ?_)
      have hK : va_K D vwCl [(K, .int), (KS, .object "BarcodeWand$State"), (KC, .char), (KL, .long)] s := hK
      have hP : va_P D vwCl [(out, .inl (KL, 1, .inr (.inl og_3))), (mo, .inr (8, [.ref ms, .int 0, .ref mb, .int 0, .int th1v_17, .ref mlk, .int 0, .ref mfd, .int 0, .int 0, .int 0, .int 0])), (ms, .inl (K, 889, .inl (upd (fun _ => 0) 93 4)))] H := hP
      have hD : va_D A [(out, .inl (KL, 1, .inr (.inl og_3))), (mo, .inr (8, [.ref ms, .int 0, .ref mb, .int 0, .int th1v_17, .ref mlk, .int 0, .ref mfd, .int 0, .int 0, .int 0, .int 0])), (ms, .inl (K, 889, .inl (upd (fun _ => 0) 93 4)))] := hD
      rcases hw_18 with ⟨c_19, rfl⟩ | ⟨c_20, rfl⟩
      · skip
        exact absurd c_19 c_6
      · skip
        refine lv_istore (lv' := [(6, .int r_16), (5, .int 1), (4, .int 0), (3, .ref out), (2, .ref mo), (1, .ref w), (0, .ref b)]) hx hb dL_law_504 hl (by decide) rfl (fun ls hl => ?_)
        refine lv_aload_n hx hb dL_law_506 rfl (lv_at hl 4 rfl) ?_
        have ct := k_cut_of (wc := [(mo, .inr (8, [.ref ms, .int 0, .ref mb, .int 0, .int 1, .ref mlk, .int 0, .ref mfd, .int 0, .int 0, .int 0, .int 0]))]) (wr := [(out, .inl (KL, 1, .inr (.inl og_3))), (ms, .inl (K, 889, .inl (upd (fun _ => 0) 93 4)))]) (tc := []) hG hS hA hK hP hD [1] [0, 2] [] rfl rfl (by decide) (by decide) (by decide) rfl
        refine k_endi (As := [.ref mo]) ct (k_runV (As := []) (rest := []) S0 Lv_L_83 rfl (ci := 8) (q0 := 0) rfl rfl ct (c_M_thrown2 l D mo ms 0 mb 0 1 mlk 0 mfd 0 0 0 0 H.size) hl.1 rfl (Nat.le_of_ble_eq_true rfl) rfl dL_law_507 ⟨⟨Nat.le_of_ble_eq_true rfl, Nat.le_of_ble_eq_true rfl⟩, Nat.le_of_ble_eq_true rfl, Nat.le_of_ble_eq_true rfl⟩) rfl rfl (fun r_21 _ H locs hw_22 hP hD hK hS => ?_)
        have hK : va_K D vwCl [(K, .int), (KS, .object "BarcodeWand$State"), (KC, .char), (KL, .long)] s := hK
        have hP : va_P D vwCl [(out, .inl (KL, 1, .inr (.inl og_3))), (ms, .inl (K, 889, .inl (upd (fun _ => 0) 93 4))), (mo, .inr (8, [.ref ms, .int 0, .ref mb, .int 0, .int 1, .ref mlk, .int 0, .ref mfd, .int 0, .int 0, .int 0, .int 0]))] H := hP
        have hD : va_D A [(out, .inl (KL, 1, .inr (.inl og_3))), (ms, .inl (K, 889, .inl (upd (fun _ => 0) 93 4))), (mo, .inr (8, [.ref ms, .int 0, .ref mb, .int 0, .int 1, .ref mlk, .int 0, .ref mfd, .int 0, .int 0, .int 0, .int 0]))] := hD
        have hw_22 : r_21 = 1 := hw_22
        have hw_22 := hw_22.symm
        subst hw_22
        refine k_nrm (y := 1) rfl ?_
        refine lv_iload hx hb dL_law_510 (lv_at hl 1 rfl) ?_
        refine lv_icmp_eq (tgt := 517) hx hb dL_law_512 (by decide) (fun _ => ?_) (fun c9 => absurd (by decide) c9)
        refine lv_iload hx hb dL_law_517 (lv_at hl 1 rfl) ?_
        refine lv_if_ne (tgt := 534) hx hb dL_law_519 (by decide) (fun _ => ?_) (fun c9 => absurd c9 (by decide))
        refine lv_goto (tgt := 1479) hx hb dL_law_534 (by decide) ?_
        exact law_end C0 (by rw [hAe]; exact hS) (lv_sub hl [2, 6] rfl) (Nat.le_of_ble_eq_true rfl) (Nat.le_of_ble_eq_true rfl)
  · have hc9 := c_1
    refine lv_iconst (v := 1) hx hb dL_law_463 (by decide) ?_
    refine lv_goto (tgt := 468) hx hb dL_law_464 (by decide) ?_
    refine lv_aload_n hx hb dL_law_468 rfl (lv_at hl 1 rfl) ?_
    have ct := k_cut_of (wc := [(w, .inr (7, [.ref st, .ref hi, .ref re, .ref fo, .ref bu, .ref pa])), (st, .inr (6, [.ref la, .ref me, .ref li, .int 4, .int 0, .int 0])), (la, .inr (2, [.ref ld, .ref lz])), (lz, .inr (4, [.ref lzA, .int 0])), (out, .inl (KL, 1, .inr (.inl (fun _ => 0))))]) (wr := [(mo, .inr (8, [.ref ms, .int 0, .ref mb, .int 0, .int 0, .ref mlk, .int 0, .ref mfd, .int 0, .int 0, .int 0, .int 0])), (ms, .inl (K, 889, .inl (upd (fun _ => 0) 93 4)))]) (tc := [(KL, .long)]) hG hS hA hK hP hD [0, 1, 2, 3, 6] [4, 5] [3] rfl rfl (by decide) (by decide) (by decide) rfl
    refine k_endi (As := [.ref w, .int y1, .int y2, .int 1, .ref out]) ct (k_runSW (As := [.ref w, .int y1, .int y2, .int 1, .ref out]) (rest := []) S0 Ls_L_100 ct (c_L_draw l hst D w st hi re fo bu pa la me li 4 0 0 ld lz lzA y1 y2 1 out KL (fun _ => 0) H.size) hl.1 rfl (Nat.le_of_ble_eq_true rfl) rfl dL_law_469 ⟨⟨Nat.le_of_ble_eq_true rfl, Nat.le_of_ble_eq_true rfl⟩, Nat.le_of_ble_eq_true rfl, Nat.le_of_ble_eq_true rfl⟩) rfl rfl (fun r_23 og_24 H locs hw_25 hP hD hK hS => ?_)
    have hK : va_K D vwCl [(K, .int), (KS, .object "BarcodeWand$State"), (KC, .char), (KL, .long)] s := hK
    have hP : va_P D vwCl [(mo, .inr (8, [.ref ms, .int 0, .ref mb, .int 0, .int 0, .ref mlk, .int 0, .ref mfd, .int 0, .int 0, .int 0, .int 0])), (ms, .inl (K, 889, .inl (upd (fun _ => 0) 93 4))), (out, .inl (KL, 1, .inr (.inl og_24)))] H := hP
    have hD : va_D A [(mo, .inr (8, [.ref ms, .int 0, .ref mb, .int 0, .int 0, .ref mlk, .int 0, .ref mfd, .int 0, .int 0, .int 0, .int 0])), (ms, .inl (K, 889, .inl (upd (fun _ => 0) 93 4))), (out, .inl (KL, 1, .inr (.inl og_24)))] := hD
    rcases hw_25 with ⟨c_26, rfl⟩ | ⟨c_27, rfl⟩
    · skip
      refine lv_istore (lv' := [(5, .int 2), (4, .int 0), (3, .ref out), (2, .ref mo), (1, .ref w), (0, .ref b)]) hx hb dL_law_472 hl (by decide) rfl (fun ls hl => ?_)
      refine lv_aload_n hx hb dL_law_474 rfl (lv_at hl 3 rfl) ?_
      refine lv_aload_n hx hb dL_law_475 rfl (lv_at hl 5 rfl) ?_
      refine lv_iload hx hb dL_law_476 (lv_at hl 1 rfl) ?_
      refine lv_iconst (v := 1) hx hb dL_law_478 (by decide) ?_
      refine lv_iadd hx hb dL_law_479 ?_
      refine k_nrm (y := 1) (by decide) ?_
      refine va_sld hx hb hX hbl hbA hS (by unfold vp_in; decide) dL_law_480 ?_
      refine k_nrm (y := y1) (by rw [hy1]; rfl) ?_
      refine lv_aload_n hx hb dL_law_481 rfl (lv_at hl 5 rfl) ?_
      refine lv_iload hx hb dL_law_482 (lv_at hl 1 rfl) ?_
      refine lv_iconst (v := 2) hx hb dL_law_484 (by decide) ?_
      refine lv_iadd hx hb dL_law_485 ?_
      refine k_nrm (y := 2) (by decide) ?_
      refine va_sld hx hb hX hbl hbA hS (by unfold vp_in; decide) dL_law_486 ?_
      refine k_nrm (y := y2) (by rw [hy2]; rfl) ?_
      refine lv_aload_n hx hb dL_law_487 rfl (lv_at hl 5 rfl) ?_
      refine lv_iload hx hb dL_law_488 (lv_at hl 1 rfl) ?_
      refine lv_iconst (v := 3) hx hb dL_law_490 (by decide) ?_
      refine lv_iadd hx hb dL_law_491 ?_
      refine k_nrm (y := 3) (by decide) ?_
      refine va_sld hx hb hX hbl hbA hS (by unfold vp_in; decide) dL_law_492 ?_
      refine k_nrm (y := y3) (by rw [hy3]; rfl) ?_
      refine lv_if_eq (tgt := 500) hx hb dL_law_493 (by decide) (fun c9 => absurd c9 c_1) (fun c_28 => ?_)
      refine lv_iconst (v := 1) hx hb dL_law_496 (by decide) ?_
      refine lv_goto (tgt := 501) hx hb dL_law_497 (by decide) ?_
      have ct := k_cut_of (wc := [(mo, .inr (8, [.ref ms, .int 0, .ref mb, .int 0, .int 0, .ref mlk, .int 0, .ref mfd, .int 0, .int 0, .int 0, .int 0])), (ms, .inl (K, 889, .inl (upd (fun _ => 0) 93 4)))]) (wr := [(out, .inl (KL, 1, .inr (.inl og_24)))]) (tc := [(K, .int)]) hG hS hA hK hP hD [0, 1] [2] [0] rfl rfl (by decide) (by decide) (by decide) rfl
      refine k_endi (As := [.ref mo, .int y1, .int y2, .int 1]) ct (k_runV (As := [.int y1, .int y2, .int 1]) (rest := []) S0 Lv_L_103 rfl (ci := 8) (q0 := 0) rfl rfl ct (c_M_draw l D mo ms 0 mb 0 mlk 0 mfd 0 0 0 0 K (upd (fun _ => 0) 93 4) y1 y2 1 (by first | assumption | exact (cpf_lo (by decide)).trans (by assumption)) (by first | assumption | exact (cpf_lo (by decide)).trans (by assumption)) (by first | assumption | exact (cpf_lo (by decide)).trans (by assumption)) (by first | assumption | exact (cpf_lo (by decide)).trans (by assumption)) (by first | assumption | exact (cpf_lo (by decide)).trans (by assumption)) (by first | assumption | exact (cpf_lo (by decide)).trans (by assumption)) H.size) hl.1 rfl (Nat.le_of_ble_eq_true rfl) rfl dL_law_501 ⟨⟨Nat.le_of_ble_eq_true rfl, Nat.le_of_ble_eq_true rfl⟩, Nat.le_of_ble_eq_true rfl, Nat.le_of_ble_eq_true rfl⟩) rfl rfl (fun r_29 th1v_30 H locs hw_31 hP hD hK hS => ?_)
      have hK : va_K D vwCl [(K, .int), (KS, .object "BarcodeWand$State"), (KC, .char), (KL, .long)] s := hK
      have hP : va_P D vwCl [(out, .inl (KL, 1, .inr (.inl og_24))), (mo, .inr (8, [.ref ms, .int 0, .ref mb, .int 0, .int th1v_30, .ref mlk, .int 0, .ref mfd, .int 0, .int 0, .int 0, .int 0])), (ms, .inl (K, 889, .inl (upd (fun _ => 0) 93 4)))] H := hP
      have hD : va_D A [(out, .inl (KL, 1, .inr (.inl og_24))), (mo, .inr (8, [.ref ms, .int 0, .ref mb, .int 0, .int th1v_30, .ref mlk, .int 0, .ref mfd, .int 0, .int 0, .int 0, .int 0])), (ms, .inl (K, 889, .inl (upd (fun _ => 0) 93 4)))] := hD
      rcases hw_31 with ⟨c_32, rfl⟩ | ⟨c_33, rfl⟩
      · skip
        refine lv_istore (lv' := [(6, .int r_29), (5, .int 2), (4, .int 0), (3, .ref out), (2, .ref mo), (1, .ref w), (0, .ref b)]) hx hb dL_law_504 hl (by decide) rfl (fun ls hl => ?_)
        refine lv_aload_n hx hb dL_law_506 rfl (lv_at hl 4 rfl) ?_
        have ct := k_cut_of (wc := [(mo, .inr (8, [.ref ms, .int 0, .ref mb, .int 0, .int 2, .ref mlk, .int 0, .ref mfd, .int 0, .int 0, .int 0, .int 0]))]) (wr := [(out, .inl (KL, 1, .inr (.inl og_24))), (ms, .inl (K, 889, .inl (upd (fun _ => 0) 93 4)))]) (tc := []) hG hS hA hK hP hD [1] [0, 2] [] rfl rfl (by decide) (by decide) (by decide) rfl
        refine k_endi (As := [.ref mo]) ct (k_runV (As := []) (rest := []) S0 Lv_L_83 rfl (ci := 8) (q0 := 0) rfl rfl ct (c_M_thrown2 l D mo ms 0 mb 0 2 mlk 0 mfd 0 0 0 0 H.size) hl.1 rfl (Nat.le_of_ble_eq_true rfl) rfl dL_law_507 ⟨⟨Nat.le_of_ble_eq_true rfl, Nat.le_of_ble_eq_true rfl⟩, Nat.le_of_ble_eq_true rfl, Nat.le_of_ble_eq_true rfl⟩) rfl rfl (fun r_34 _ H locs hw_35 hP hD hK hS => ?_)
        have hK : va_K D vwCl [(K, .int), (KS, .object "BarcodeWand$State"), (KC, .char), (KL, .long)] s := hK
        have hP : va_P D vwCl [(out, .inl (KL, 1, .inr (.inl og_24))), (ms, .inl (K, 889, .inl (upd (fun _ => 0) 93 4))), (mo, .inr (8, [.ref ms, .int 0, .ref mb, .int 0, .int 2, .ref mlk, .int 0, .ref mfd, .int 0, .int 0, .int 0, .int 0]))] H := hP
        have hD : va_D A [(out, .inl (KL, 1, .inr (.inl og_24))), (ms, .inl (K, 889, .inl (upd (fun _ => 0) 93 4))), (mo, .inr (8, [.ref ms, .int 0, .ref mb, .int 0, .int 2, .ref mlk, .int 0, .ref mfd, .int 0, .int 0, .int 0, .int 0]))] := hD
        have hw_35 : r_34 = 2 := hw_35
        have hw_35 := hw_35.symm
        subst hw_35
        refine k_nrm (y := 2) rfl ?_
        refine lv_iload hx hb dL_law_510 (lv_at hl 1 rfl) ?_
        refine lv_icmp_eq (tgt := 517) hx hb dL_law_512 (by decide) (fun _ => ?_) (fun c9 => absurd (by decide) c9)
        refine lv_iload hx hb dL_law_517 (lv_at hl 1 rfl) ?_
        refine lv_if_ne (tgt := 534) hx hb dL_law_519 (by decide) (fun _ => ?_) (fun c9 => absurd c9 (by decide))
        refine lv_goto (tgt := 1479) hx hb dL_law_534 (by decide) ?_
        exact law_end C0 (by rw [hAe]; exact hS) (lv_sub hl [2, 6] rfl) (Nat.le_of_ble_eq_true rfl) (Nat.le_of_ble_eq_true rfl)
      · skip
        exact absurd c_26 c_33
    · skip
      refine lv_istore (lv' := [(5, .int 1), (4, .int 0), (3, .ref out), (2, .ref mo), (1, .ref w), (0, .ref b)]) hx hb dL_law_472 hl (by decide) rfl (fun ls hl => ?_)
      refine lv_aload_n hx hb dL_law_474 rfl (lv_at hl 3 rfl) ?_
      refine lv_aload_n hx hb dL_law_475 rfl (lv_at hl 5 rfl) ?_
      refine lv_iload hx hb dL_law_476 (lv_at hl 1 rfl) ?_
      refine lv_iconst (v := 1) hx hb dL_law_478 (by decide) ?_
      refine lv_iadd hx hb dL_law_479 ?_
      refine k_nrm (y := 1) (by decide) ?_
      refine va_sld hx hb hX hbl hbA hS (by unfold vp_in; decide) dL_law_480 ?_
      refine k_nrm (y := y1) (by rw [hy1]; rfl) ?_
      refine lv_aload_n hx hb dL_law_481 rfl (lv_at hl 5 rfl) ?_
      refine lv_iload hx hb dL_law_482 (lv_at hl 1 rfl) ?_
      refine lv_iconst (v := 2) hx hb dL_law_484 (by decide) ?_
      refine lv_iadd hx hb dL_law_485 ?_
      refine k_nrm (y := 2) (by decide) ?_
      refine va_sld hx hb hX hbl hbA hS (by unfold vp_in; decide) dL_law_486 ?_
      refine k_nrm (y := y2) (by rw [hy2]; rfl) ?_
      refine lv_aload_n hx hb dL_law_487 rfl (lv_at hl 5 rfl) ?_
      refine lv_iload hx hb dL_law_488 (lv_at hl 1 rfl) ?_
      refine lv_iconst (v := 3) hx hb dL_law_490 (by decide) ?_
      refine lv_iadd hx hb dL_law_491 ?_
      refine k_nrm (y := 3) (by decide) ?_
      refine va_sld hx hb hX hbl hbA hS (by unfold vp_in; decide) dL_law_492 ?_
      refine k_nrm (y := y3) (by rw [hy3]; rfl) ?_
      refine lv_if_eq (tgt := 500) hx hb dL_law_493 (by decide) (fun c9 => absurd c9 c_1) (fun c_36 => ?_)
      refine lv_iconst (v := 1) hx hb dL_law_496 (by decide) ?_
      refine lv_goto (tgt := 501) hx hb dL_law_497 (by decide) ?_
      have ct := k_cut_of (wc := [(mo, .inr (8, [.ref ms, .int 0, .ref mb, .int 0, .int 0, .ref mlk, .int 0, .ref mfd, .int 0, .int 0, .int 0, .int 0])), (ms, .inl (K, 889, .inl (upd (fun _ => 0) 93 4)))]) (wr := [(out, .inl (KL, 1, .inr (.inl og_24)))]) (tc := [(K, .int)]) hG hS hA hK hP hD [0, 1] [2] [0] rfl rfl (by decide) (by decide) (by decide) rfl
      refine k_endi (As := [.ref mo, .int y1, .int y2, .int 1]) ct (k_runV (As := [.int y1, .int y2, .int 1]) (rest := []) S0 Lv_L_103 rfl (ci := 8) (q0 := 0) rfl rfl ct (c_M_draw l D mo ms 0 mb 0 mlk 0 mfd 0 0 0 0 K (upd (fun _ => 0) 93 4) y1 y2 1 (by first | assumption | exact (cpf_lo (by decide)).trans (by assumption)) (by first | assumption | exact (cpf_lo (by decide)).trans (by assumption)) (by first | assumption | exact (cpf_lo (by decide)).trans (by assumption)) (by first | assumption | exact (cpf_lo (by decide)).trans (by assumption)) (by first | assumption | exact (cpf_lo (by decide)).trans (by assumption)) (by first | assumption | exact (cpf_lo (by decide)).trans (by assumption)) H.size) hl.1 rfl (Nat.le_of_ble_eq_true rfl) rfl dL_law_501 ⟨⟨Nat.le_of_ble_eq_true rfl, Nat.le_of_ble_eq_true rfl⟩, Nat.le_of_ble_eq_true rfl, Nat.le_of_ble_eq_true rfl⟩) rfl rfl (fun r_37 th1v_38 H locs hw_39 hP hD hK hS => ?_)
      have hK : va_K D vwCl [(K, .int), (KS, .object "BarcodeWand$State"), (KC, .char), (KL, .long)] s := hK
      have hP : va_P D vwCl [(out, .inl (KL, 1, .inr (.inl og_24))), (mo, .inr (8, [.ref ms, .int 0, .ref mb, .int 0, .int th1v_38, .ref mlk, .int 0, .ref mfd, .int 0, .int 0, .int 0, .int 0])), (ms, .inl (K, 889, .inl (upd (fun _ => 0) 93 4)))] H := hP
      have hD : va_D A [(out, .inl (KL, 1, .inr (.inl og_24))), (mo, .inr (8, [.ref ms, .int 0, .ref mb, .int 0, .int th1v_38, .ref mlk, .int 0, .ref mfd, .int 0, .int 0, .int 0, .int 0])), (ms, .inl (K, 889, .inl (upd (fun _ => 0) 93 4)))] := hD
      rcases hw_39 with ⟨c_40, rfl⟩ | ⟨c_41, rfl⟩
      · skip
        exact absurd c_40 c_27
      · skip
        refine lv_istore (lv' := [(6, .int r_37), (5, .int 1), (4, .int 0), (3, .ref out), (2, .ref mo), (1, .ref w), (0, .ref b)]) hx hb dL_law_504 hl (by decide) rfl (fun ls hl => ?_)
        refine lv_aload_n hx hb dL_law_506 rfl (lv_at hl 4 rfl) ?_
        have ct := k_cut_of (wc := [(mo, .inr (8, [.ref ms, .int 0, .ref mb, .int 0, .int 1, .ref mlk, .int 0, .ref mfd, .int 0, .int 0, .int 0, .int 0]))]) (wr := [(out, .inl (KL, 1, .inr (.inl og_24))), (ms, .inl (K, 889, .inl (upd (fun _ => 0) 93 4)))]) (tc := []) hG hS hA hK hP hD [1] [0, 2] [] rfl rfl (by decide) (by decide) (by decide) rfl
        refine k_endi (As := [.ref mo]) ct (k_runV (As := []) (rest := []) S0 Lv_L_83 rfl (ci := 8) (q0 := 0) rfl rfl ct (c_M_thrown2 l D mo ms 0 mb 0 1 mlk 0 mfd 0 0 0 0 H.size) hl.1 rfl (Nat.le_of_ble_eq_true rfl) rfl dL_law_507 ⟨⟨Nat.le_of_ble_eq_true rfl, Nat.le_of_ble_eq_true rfl⟩, Nat.le_of_ble_eq_true rfl, Nat.le_of_ble_eq_true rfl⟩) rfl rfl (fun r_42 _ H locs hw_43 hP hD hK hS => ?_)
        have hK : va_K D vwCl [(K, .int), (KS, .object "BarcodeWand$State"), (KC, .char), (KL, .long)] s := hK
        have hP : va_P D vwCl [(out, .inl (KL, 1, .inr (.inl og_24))), (ms, .inl (K, 889, .inl (upd (fun _ => 0) 93 4))), (mo, .inr (8, [.ref ms, .int 0, .ref mb, .int 0, .int 1, .ref mlk, .int 0, .ref mfd, .int 0, .int 0, .int 0, .int 0]))] H := hP
        have hD : va_D A [(out, .inl (KL, 1, .inr (.inl og_24))), (ms, .inl (K, 889, .inl (upd (fun _ => 0) 93 4))), (mo, .inr (8, [.ref ms, .int 0, .ref mb, .int 0, .int 1, .ref mlk, .int 0, .ref mfd, .int 0, .int 0, .int 0, .int 0]))] := hD
        have hw_43 : r_42 = 1 := hw_43
        have hw_43 := hw_43.symm
        subst hw_43
        refine k_nrm (y := 1) rfl ?_
        refine lv_iload hx hb dL_law_510 (lv_at hl 1 rfl) ?_
        refine lv_icmp_eq (tgt := 517) hx hb dL_law_512 (by decide) (fun _ => ?_) (fun c9 => absurd (by decide) c9)
        refine lv_iload hx hb dL_law_517 (lv_at hl 1 rfl) ?_
        refine lv_if_ne (tgt := 534) hx hb dL_law_519 (by decide) (fun _ => ?_) (fun c9 => absurd c9 (by decide))
        refine lv_goto (tgt := 1479) hx hb dL_law_534 (by decide) ?_
        exact law_end C0 (by rw [hAe]; exact hS) (lv_sub hl [2, 6] rfl) (Nat.le_of_ble_eq_true rfl) (Nat.le_of_ble_eq_true rfl)
set_option maxHeartbeats 4000000 in
set_option maxRecDepth 100000 in
theorem law_c6 {p : Program} {l : Launch} {e : Env} {s : State} {m : MethodId} {below : List Frame} {meth : Method} {c : Code} {b : Nat} {xs : Nat → Int32} (hst : l.stackTraces = false) (D : va_G) (C0 : lw_At p s m meth c b 4 xs) (hG : k_G (fun q : Nat => s.heap.size ≤ q) s s.heap) {H : Heap} {locs : List Loc} {ls : Array Slot} (h : law_I D s b H locs ls) : W p l e room_1 s m #[Value.ref b] below meth c H locs 124 2208 (lw_Z below #[Value.ref b] s) (F0 m 537 ls []) := by
  have C1 := C0
  obtain ⟨hx, hb, hr, hml, hown, hts, hX, hbl, hlocks, hgv⟩ := C1
  have hown : s.vm.findClass RL = some m.cls := hown
  have ht : ∀ v9 ∈ wsA, v9.before #[Value.ref b] s = true := fun v9 h9 => hts v9 (wsA_tbl h9)
  have S0 : k_C p s m #[Value.ref b] c cL_law 7 RL := ⟨hx, hb, hml, hown, ht⟩
  have hbA : ¬ (fun q : Nat => s.heap.size ≤ q) b := Nat.not_le.mpr hbl
  have hA : ∀ q : Nat, s.heap.size ≤ q → (fun q : Nat => s.heap.size ≤ q) q := fun _ h9 => h9
  obtain ⟨y1, hy1⟩ : ∃ z9 : Int32, z9 = xs 1 := ⟨_, rfl⟩
  obtain ⟨y2, hy2⟩ : ∃ z9 : Int32, z9 = xs 2 := ⟨_, rfl⟩
  obtain ⟨y3, hy3⟩ : ∃ z9 : Int32, z9 = xs 3 := ⟨_, rfl⟩
  have hs0 : (upd (fun _ => 0) 93 4) 0 = 0 := rfl
  have hs51 : (upd (fun _ => 0) 93 4) 51 = 0 := rfl
  have hs93 : (upd (fun _ => 0) 93 4) 93 = 4 := rfl
  have hs94 : (upd (fun _ => 0) 93 4) 94 = 0 := rfl
  have hs125 : (upd (fun _ => 0) 93 4) 125 = 0 := rfl
  have hs126 : (upd (fun _ => 0) 93 4) 126 = 0 := rfl
  obtain ⟨w, st, la, ld, ldA, lz, lzA, me, meA, li, ln, lnA, ll, llA, lc, lcA, hi, ri, zst, zla, zld, zldA, zlz, zlzA, zme, zmeA, zli, zln, zlnA, zll, zllA, zlc, zlcA, re, rd, rdA, rl, rlA, fo, foA, bu, buA, pa, mo, ms, mb, mlk, mfd, out, rf, K, KS, KC, KL, hrf, hK, hP, hD, hS, hl⟩ := h
  have hl : lv_has ls 7 [(4, .int 0), (3, .ref out), (2, .ref mo), (1, .ref w), (0, .ref b)] := hl
  generalize hAe : (fun q : Nat => s.heap.size ≤ q) = A at hG hD hS hA hbA
  have hP : va_P D vwCl [(w, .inr (7, [.ref st, .ref hi, .ref re, .ref fo, .ref bu, .ref pa])), (st, .inr (6, [.ref la, .ref me, .ref li, .int 4, .int 0, .int 0])), (la, .inr (2, [.ref ld, .ref lz])), (ld, .inr (4, [.ref ldA, .int 0])), (lz, .inr (4, [.ref lzA, .int 0])), (me, .inr (4, [.ref meA, .int 0])), (meA, .inl (K, 41, .inl (fun _ => 0))), (li, .inr (0, [.ref ln, .ref ll, .ref lc])), (ln, .inr (4, [.ref lnA, .int 0])), (ll, .inr (4, [.ref llA, .int 0])), (lc, .inr (4, [.ref lcA, .int 0])), (hi, .inr (5, [.ref ri, .int 0, .int 0])), (ri, .inl (KS, 6, .inr (.inr (.inr (.inr rf))))), (zst, .inr (6, [.ref zla, .ref zme, .ref zli, .int 4, .int 0, .int 0])), (zla, .inr (2, [.ref zld, .ref zlz])), (zld, .inr (4, [.ref zldA, .int 0])), (zlz, .inr (4, [.ref zlzA, .int 0])), (zme, .inr (4, [.ref zmeA, .int 0])), (zli, .inr (0, [.ref zln, .ref zll, .ref zlc])), (zln, .inr (4, [.ref zlnA, .int 0])), (zll, .inr (4, [.ref zllA, .int 0])), (zlc, .inr (4, [.ref zlcA, .int 0])), (mo, .inr (8, [.ref ms, .int 0, .ref mb, .int 0, .int 0, .ref mlk, .int 0, .ref mfd, .int 0, .int 0, .int 0, .int 0])), (ms, .inl (K, 889, .inl (upd (fun _ => 0) 93 4))), (out, .inl (KL, 1, .inr (.inl (fun _ => 0))))] H := hP.sub [0, 1, 2, 3, 5, 7, 8, 9, 10, 12, 14, 16, 17, 18, 19, 20, 22, 24, 26, 27, 29, 31, 43, 44, 48] rfl
  have hD : va_D A [(w, .inr (7, [.ref st, .ref hi, .ref re, .ref fo, .ref bu, .ref pa])), (st, .inr (6, [.ref la, .ref me, .ref li, .int 4, .int 0, .int 0])), (la, .inr (2, [.ref ld, .ref lz])), (ld, .inr (4, [.ref ldA, .int 0])), (lz, .inr (4, [.ref lzA, .int 0])), (me, .inr (4, [.ref meA, .int 0])), (meA, .inl (K, 41, .inl (fun _ => 0))), (li, .inr (0, [.ref ln, .ref ll, .ref lc])), (ln, .inr (4, [.ref lnA, .int 0])), (ll, .inr (4, [.ref llA, .int 0])), (lc, .inr (4, [.ref lcA, .int 0])), (hi, .inr (5, [.ref ri, .int 0, .int 0])), (ri, .inl (KS, 6, .inr (.inr (.inr (.inr rf))))), (zst, .inr (6, [.ref zla, .ref zme, .ref zli, .int 4, .int 0, .int 0])), (zla, .inr (2, [.ref zld, .ref zlz])), (zld, .inr (4, [.ref zldA, .int 0])), (zlz, .inr (4, [.ref zlzA, .int 0])), (zme, .inr (4, [.ref zmeA, .int 0])), (zli, .inr (0, [.ref zln, .ref zll, .ref zlc])), (zln, .inr (4, [.ref zlnA, .int 0])), (zll, .inr (4, [.ref zllA, .int 0])), (zlc, .inr (4, [.ref zlcA, .int 0])), (mo, .inr (8, [.ref ms, .int 0, .ref mb, .int 0, .int 0, .ref mlk, .int 0, .ref mfd, .int 0, .int 0, .int 0, .int 0])), (ms, .inl (K, 889, .inl (upd (fun _ => 0) 93 4))), (out, .inl (KL, 1, .inr (.inl (fun _ => 0))))] := hD.sub [0, 1, 2, 3, 5, 7, 8, 9, 10, 12, 14, 16, 17, 18, 19, 20, 22, 24, 26, 27, 29, 31, 43, 44, 48] (by decide) rfl
  refine lv_aload_n hx hb dL_law_537 rfl (lv_at hl 3 rfl) ?_
  refine lv_aload_n hx hb dL_law_538 rfl (lv_at hl 4 rfl) ?_
  refine lv_iload hx hb dL_law_539 (lv_at hl 0 rfl) ?_
  refine lv_iconst (v := 1) hx hb dL_law_541 (by decide) ?_
  refine lv_iadd hx hb dL_law_542 ?_
  refine k_nrm (y := 1) (by decide) ?_
  refine va_sld hx hb hX hbl hbA hS (by unfold vp_in; decide) dL_law_543 ?_
  refine k_nrm (y := y1) (by rw [hy1]; rfl) ?_
  refine lv_aload_n hx hb dL_law_544 rfl (lv_at hl 1 rfl) ?_
  have ct := k_cut_of (wc := [(w, .inr (7, [.ref st, .ref hi, .ref re, .ref fo, .ref bu, .ref pa])), (hi, .inr (5, [.ref ri, .int 0, .int 0])), (ri, .inl (KS, 6, .inr (.inr (.inr (.inr rf))))), (zst, .inr (6, [.ref zla, .ref zme, .ref zli, .int 4, .int 0, .int 0])), (zla, .inr (2, [.ref zld, .ref zlz])), (zld, .inr (4, [.ref zldA, .int 0])), (zlz, .inr (4, [.ref zlzA, .int 0])), (zme, .inr (4, [.ref zmeA, .int 0])), (zli, .inr (0, [.ref zln, .ref zll, .ref zlc])), (zln, .inr (4, [.ref zlnA, .int 0])), (zll, .inr (4, [.ref zllA, .int 0])), (zlc, .inr (4, [.ref zlcA, .int 0])), (st, .inr (6, [.ref la, .ref me, .ref li, .int 4, .int 0, .int 0])), (la, .inr (2, [.ref ld, .ref lz])), (ld, .inr (4, [.ref ldA, .int 0])), (lz, .inr (4, [.ref lzA, .int 0])), (me, .inr (4, [.ref meA, .int 0])), (li, .inr (0, [.ref ln, .ref ll, .ref lc])), (ln, .inr (4, [.ref lnA, .int 0])), (ll, .inr (4, [.ref llA, .int 0])), (lc, .inr (4, [.ref lcA, .int 0])), (meA, .inl (K, 41, .inl (fun _ => 0))), (out, .inl (KL, 1, .inr (.inl (fun _ => 0))))]) (wr := [(mo, .inr (8, [.ref ms, .int 0, .ref mb, .int 0, .int 0, .ref mlk, .int 0, .ref mfd, .int 0, .int 0, .int 0, .int 0])), (ms, .inl (K, 889, .inl (upd (fun _ => 0) 93 4)))]) (tc := [(K, .int), (KS, .object "BarcodeWand$State"), (KL, .long)]) hG hS hA hK hP hD [0, 11, 12, 13, 14, 15, 16, 17, 18, 19, 20, 21, 1, 2, 3, 4, 5, 7, 8, 9, 10, 6, 24] [22, 23] [0, 1, 3] rfl rfl (by decide) (by decide) (by decide) rfl
  refine k_endi (As := [.ref w, .int y1, .ref out]) ct (k_runSW (As := [.ref w, .int y1, .ref out]) (rest := []) S0 Ls_L_104 ct (c_L_measure l hst D w st hi re fo bu pa ri KS rf zst zla zme zli 4 0 0 zld zlz zldA 0 zlzA 0 zmeA 0 zln zll zlc zlnA 0 zllA 0 zlcA 0 la me li 4 0 0 ld lz ldA lzA meA ln ll lc lnA llA lcA K (fun _ => 0) y1 out KL (fun _ => 0) (by assumption) H.size) hl.1 rfl (Nat.le_of_ble_eq_true rfl) rfl dL_law_545 ⟨⟨Nat.le_of_ble_eq_true rfl, Nat.le_of_ble_eq_true rfl⟩, Nat.le_of_ble_eq_true rfl, Nat.le_of_ble_eq_true rfl⟩) rfl rfl (fun r_1 og_2 H locs hw_3 hP hD hK hS => ?_)
  have hK : va_K D vwCl [(K, .int), (KS, .object "BarcodeWand$State"), (KC, .char), (KL, .long)] s := hK
  have hP : va_P D vwCl [(mo, .inr (8, [.ref ms, .int 0, .ref mb, .int 0, .int 0, .ref mlk, .int 0, .ref mfd, .int 0, .int 0, .int 0, .int 0])), (ms, .inl (K, 889, .inl (upd (fun _ => 0) 93 4))), (out, .inl (KL, 1, .inr (.inl og_2)))] H := hP
  have hD : va_D A [(mo, .inr (8, [.ref ms, .int 0, .ref mb, .int 0, .int 0, .ref mlk, .int 0, .ref mfd, .int 0, .int 0, .int 0, .int 0])), (ms, .inl (K, 889, .inl (upd (fun _ => 0) 93 4))), (out, .inl (KL, 1, .inr (.inl og_2)))] := hD
  rcases hw_3 with ⟨c_4, rfl, c_5⟩ | ⟨c_6, rfl⟩
  · skip
    refine lv_istore (lv' := [(5, .int 0), (4, .int 0), (3, .ref out), (2, .ref mo), (1, .ref w), (0, .ref b)]) hx hb dL_law_548 hl (by decide) rfl (fun ls hl => ?_)
    refine lv_aload_n hx hb dL_law_550 rfl (lv_at hl 3 rfl) ?_
    refine lv_aload_n hx hb dL_law_551 rfl (lv_at hl 5 rfl) ?_
    refine lv_iload hx hb dL_law_552 (lv_at hl 1 rfl) ?_
    refine lv_iconst (v := 1) hx hb dL_law_554 (by decide) ?_
    refine lv_iadd hx hb dL_law_555 ?_
    refine k_nrm (y := 1) (by decide) ?_
    refine va_sld hx hb hX hbl hbA hS (by unfold vp_in; decide) dL_law_556 ?_
    refine k_nrm (y := y1) (by rw [hy1]; rfl) ?_
    have ct := k_cut_of (wc := [(mo, .inr (8, [.ref ms, .int 0, .ref mb, .int 0, .int 0, .ref mlk, .int 0, .ref mfd, .int 0, .int 0, .int 0, .int 0])), (ms, .inl (K, 889, .inl (upd (fun _ => 0) 93 4)))]) (wr := [(out, .inl (KL, 1, .inr (.inl og_2)))]) (tc := [(K, .int)]) hG hS hA hK hP hD [0, 1] [2] [0] rfl rfl (by decide) (by decide) (by decide) rfl
    refine k_endi (As := [.ref mo, .int y1]) ct (k_runV (As := [.int y1]) (rest := []) S0 Lv_L_106 rfl (ci := 8) (q0 := 0) rfl rfl ct (c_M_measure l D mo ms mb 0 mlk 0 mfd 0 0 0 0 K (upd (fun _ => 0) 93 4) y1 (by first | assumption | exact (cpf_lo (by decide)).trans (by assumption)) (by first | assumption | exact (cpf_lo (by decide)).trans (by assumption)) (by first | assumption | exact (cpf_lo (by decide)).trans (by assumption)) (by first | assumption | exact (cpf_lo (by decide)).trans (by assumption)) (by first | assumption | exact (cpf_lo (by decide)).trans (by assumption)) (by first | assumption | exact (cpf_lo (by decide)).trans (by assumption)) H.size) hl.1 rfl (Nat.le_of_ble_eq_true rfl) rfl dL_law_557 ⟨⟨Nat.le_of_ble_eq_true rfl, Nat.le_of_ble_eq_true rfl⟩, Nat.le_of_ble_eq_true rfl, Nat.le_of_ble_eq_true rfl⟩) rfl rfl (fun r_7 u H locs hw_11 hP hD hK hS => ?_)
    obtain ⟨th1v_8, sv1v_9, sg_10⟩ := u
    have hK : va_K D vwCl [(K, .int), (KS, .object "BarcodeWand$State"), (KC, .char), (KL, .long)] s := hK
    have hP : va_P D vwCl [(out, .inl (KL, 1, .inr (.inl og_2))), (mo, .inr (8, [.ref ms, .int sv1v_9, .ref mb, .int 0, .int th1v_8, .ref mlk, .int 0, .ref mfd, .int 0, .int 0, .int 0, .int 0])), (ms, .inl (K, 889, .inl sg_10))] H := hP
    have hD : va_D A [(out, .inl (KL, 1, .inr (.inl og_2))), (mo, .inr (8, [.ref ms, .int sv1v_9, .ref mb, .int 0, .int th1v_8, .ref mlk, .int 0, .ref mfd, .int 0, .int 0, .int 0, .int 0])), (ms, .inl (K, 889, .inl sg_10))] := hD
    rcases hw_11 with ⟨c_12, rfl, rfl⟩ | ⟨c_13, rfl⟩
    · skip
      refine lv_istore (lv' := [(6, .int 1), (5, .int 0), (4, .int 0), (3, .ref out), (2, .ref mo), (1, .ref w), (0, .ref b)]) hx hb dL_law_560 hl (by decide) rfl (fun ls hl => ?_)
      refine lv_aload_n hx hb dL_law_562 rfl (lv_at hl 4 rfl) ?_
      have ct := k_cut_of (wc := [(mo, .inr (8, [.ref ms, .int sv1v_9, .ref mb, .int 0, .int 0, .ref mlk, .int 0, .ref mfd, .int 0, .int 0, .int 0, .int 0]))]) (wr := [(out, .inl (KL, 1, .inr (.inl og_2))), (ms, .inl (K, 889, .inl sg_10))]) (tc := []) hG hS hA hK hP hD [1] [0, 2] [] rfl rfl (by decide) (by decide) (by decide) rfl
      refine k_endi (As := [.ref mo]) ct (k_runV (As := []) (rest := []) S0 Lv_L_83 rfl (ci := 8) (q0 := 0) rfl rfl ct (c_M_thrown2 l D mo ms sv1v_9 mb 0 0 mlk 0 mfd 0 0 0 0 H.size) hl.1 rfl (Nat.le_of_ble_eq_true rfl) rfl dL_law_563 ⟨⟨Nat.le_of_ble_eq_true rfl, Nat.le_of_ble_eq_true rfl⟩, Nat.le_of_ble_eq_true rfl, Nat.le_of_ble_eq_true rfl⟩) rfl rfl (fun r_14 _ H locs hw_15 hP hD hK hS => ?_)
      have hK : va_K D vwCl [(K, .int), (KS, .object "BarcodeWand$State"), (KC, .char), (KL, .long)] s := hK
      have hP : va_P D vwCl [(out, .inl (KL, 1, .inr (.inl og_2))), (ms, .inl (K, 889, .inl sg_10)), (mo, .inr (8, [.ref ms, .int sv1v_9, .ref mb, .int 0, .int 0, .ref mlk, .int 0, .ref mfd, .int 0, .int 0, .int 0, .int 0]))] H := hP
      have hD : va_D A [(out, .inl (KL, 1, .inr (.inl og_2))), (ms, .inl (K, 889, .inl sg_10)), (mo, .inr (8, [.ref ms, .int sv1v_9, .ref mb, .int 0, .int 0, .ref mlk, .int 0, .ref mfd, .int 0, .int 0, .int 0, .int 0]))] := hD
      have hw_15 : r_14 = 0 := hw_15
      have hw_15 := hw_15.symm
      subst hw_15
      refine k_nrm (y := 0) rfl ?_
      refine lv_iload hx hb dL_law_566 (lv_at hl 1 rfl) ?_
      refine lv_icmp_eq (tgt := 573) hx hb dL_law_568 (by decide) (fun _ => ?_) (fun c9 => absurd (by decide) c9)
      refine lv_iload hx hb dL_law_573 (lv_at hl 1 rfl) ?_
      refine lv_if_ne (tgt := 590) hx hb dL_law_575 (by decide) (fun c9 => absurd (by decide) c9) (fun _ => ?_)
      refine lv_aload_n hx hb dL_law_578 rfl (lv_at hl 3 rfl) ?_
      refine lv_iconst (v := 0) hx hb dL_law_579 (by decide) ?_
      refine va_lald hx hb hK hP 0 3 rfl rfl (by unfold vp_in; decide) dL_law_580 ?_
      refine k_nrml (y := 1) ((show og_2 (0 : Int32).toNatClampNeg = (1 : Int32).toInt64 from c_5).trans (by decide)) ?_
      refine lv_iload hx hb dL_law_581 (lv_at hl 0 rfl) ?_
      refine lv_i2l (v := 1) hx hb dL_law_583 (by decide) ?_
      refine W.lcmp hx hb dL_law_584 ?_
      refine k_nrm (y := 0) (by decide) ?_
      refine lv_if_eq (tgt := 590) hx hb dL_law_585 (by decide) (fun _ => ?_) (fun c9 => absurd (by decide) c9)
      refine lv_goto (tgt := 1479) hx hb dL_law_590 (by decide) ?_
      exact law_end C0 (by rw [hAe]; exact hS) (lv_sub hl [2, 6] rfl) (Nat.le_of_ble_eq_true rfl) (Nat.le_of_ble_eq_true rfl)
    · skip
      exact absurd c_4 c_13
  · skip
    refine lv_istore (lv' := [(5, .int 1), (4, .int 0), (3, .ref out), (2, .ref mo), (1, .ref w), (0, .ref b)]) hx hb dL_law_548 hl (by decide) rfl (fun ls hl => ?_)
    refine lv_aload_n hx hb dL_law_550 rfl (lv_at hl 3 rfl) ?_
    refine lv_aload_n hx hb dL_law_551 rfl (lv_at hl 5 rfl) ?_
    refine lv_iload hx hb dL_law_552 (lv_at hl 1 rfl) ?_
    refine lv_iconst (v := 1) hx hb dL_law_554 (by decide) ?_
    refine lv_iadd hx hb dL_law_555 ?_
    refine k_nrm (y := 1) (by decide) ?_
    refine va_sld hx hb hX hbl hbA hS (by unfold vp_in; decide) dL_law_556 ?_
    refine k_nrm (y := y1) (by rw [hy1]; rfl) ?_
    have ct := k_cut_of (wc := [(mo, .inr (8, [.ref ms, .int 0, .ref mb, .int 0, .int 0, .ref mlk, .int 0, .ref mfd, .int 0, .int 0, .int 0, .int 0])), (ms, .inl (K, 889, .inl (upd (fun _ => 0) 93 4)))]) (wr := [(out, .inl (KL, 1, .inr (.inl og_2)))]) (tc := [(K, .int)]) hG hS hA hK hP hD [0, 1] [2] [0] rfl rfl (by decide) (by decide) (by decide) rfl
    refine k_endi (As := [.ref mo, .int y1]) ct (k_runV (As := [.int y1]) (rest := []) S0 Lv_L_106 rfl (ci := 8) (q0 := 0) rfl rfl ct (c_M_measure l D mo ms mb 0 mlk 0 mfd 0 0 0 0 K (upd (fun _ => 0) 93 4) y1 (by first | assumption | exact (cpf_lo (by decide)).trans (by assumption)) (by first | assumption | exact (cpf_lo (by decide)).trans (by assumption)) (by first | assumption | exact (cpf_lo (by decide)).trans (by assumption)) (by first | assumption | exact (cpf_lo (by decide)).trans (by assumption)) (by first | assumption | exact (cpf_lo (by decide)).trans (by assumption)) (by first | assumption | exact (cpf_lo (by decide)).trans (by assumption)) H.size) hl.1 rfl (Nat.le_of_ble_eq_true rfl) rfl dL_law_557 ⟨⟨Nat.le_of_ble_eq_true rfl, Nat.le_of_ble_eq_true rfl⟩, Nat.le_of_ble_eq_true rfl, Nat.le_of_ble_eq_true rfl⟩) rfl rfl (fun r_16 u H locs hw_20 hP hD hK hS => ?_)
    obtain ⟨th1v_17, sv1v_18, sg_19⟩ := u
    have hK : va_K D vwCl [(K, .int), (KS, .object "BarcodeWand$State"), (KC, .char), (KL, .long)] s := hK
    have hP : va_P D vwCl [(out, .inl (KL, 1, .inr (.inl og_2))), (mo, .inr (8, [.ref ms, .int sv1v_18, .ref mb, .int 0, .int th1v_17, .ref mlk, .int 0, .ref mfd, .int 0, .int 0, .int 0, .int 0])), (ms, .inl (K, 889, .inl sg_19))] H := hP
    have hD : va_D A [(out, .inl (KL, 1, .inr (.inl og_2))), (mo, .inr (8, [.ref ms, .int sv1v_18, .ref mb, .int 0, .int th1v_17, .ref mlk, .int 0, .ref mfd, .int 0, .int 0, .int 0, .int 0])), (ms, .inl (K, 889, .inl sg_19))] := hD
    rcases hw_20 with ⟨c_21, rfl, rfl⟩ | ⟨c_22, rfl⟩
    · skip
      exact absurd c_21 c_6
    · skip
      refine lv_istore (lv' := [(6, .int r_16), (5, .int 1), (4, .int 0), (3, .ref out), (2, .ref mo), (1, .ref w), (0, .ref b)]) hx hb dL_law_560 hl (by decide) rfl (fun ls hl => ?_)
      refine lv_aload_n hx hb dL_law_562 rfl (lv_at hl 4 rfl) ?_
      have ct := k_cut_of (wc := [(mo, .inr (8, [.ref ms, .int sv1v_18, .ref mb, .int 0, .int 1, .ref mlk, .int 0, .ref mfd, .int 0, .int 0, .int 0, .int 0]))]) (wr := [(out, .inl (KL, 1, .inr (.inl og_2))), (ms, .inl (K, 889, .inl sg_19))]) (tc := []) hG hS hA hK hP hD [1] [0, 2] [] rfl rfl (by decide) (by decide) (by decide) rfl
      refine k_endi (As := [.ref mo]) ct (k_runV (As := []) (rest := []) S0 Lv_L_83 rfl (ci := 8) (q0 := 0) rfl rfl ct (c_M_thrown2 l D mo ms sv1v_18 mb 0 1 mlk 0 mfd 0 0 0 0 H.size) hl.1 rfl (Nat.le_of_ble_eq_true rfl) rfl dL_law_563 ⟨⟨Nat.le_of_ble_eq_true rfl, Nat.le_of_ble_eq_true rfl⟩, Nat.le_of_ble_eq_true rfl, Nat.le_of_ble_eq_true rfl⟩) rfl rfl (fun r_23 _ H locs hw_24 hP hD hK hS => ?_)
      have hK : va_K D vwCl [(K, .int), (KS, .object "BarcodeWand$State"), (KC, .char), (KL, .long)] s := hK
      have hP : va_P D vwCl [(out, .inl (KL, 1, .inr (.inl og_2))), (ms, .inl (K, 889, .inl sg_19)), (mo, .inr (8, [.ref ms, .int sv1v_18, .ref mb, .int 0, .int 1, .ref mlk, .int 0, .ref mfd, .int 0, .int 0, .int 0, .int 0]))] H := hP
      have hD : va_D A [(out, .inl (KL, 1, .inr (.inl og_2))), (ms, .inl (K, 889, .inl sg_19)), (mo, .inr (8, [.ref ms, .int sv1v_18, .ref mb, .int 0, .int 1, .ref mlk, .int 0, .ref mfd, .int 0, .int 0, .int 0, .int 0]))] := hD
      have hw_24 : r_23 = 1 := hw_24
      have hw_24 := hw_24.symm
      subst hw_24
      refine k_nrm (y := 1) rfl ?_
      refine lv_iload hx hb dL_law_566 (lv_at hl 1 rfl) ?_
      refine lv_icmp_eq (tgt := 573) hx hb dL_law_568 (by decide) (fun _ => ?_) (fun c9 => absurd (by decide) c9)
      refine lv_iload hx hb dL_law_573 (lv_at hl 1 rfl) ?_
      refine lv_if_ne (tgt := 590) hx hb dL_law_575 (by decide) (fun _ => ?_) (fun c9 => absurd c9 (by decide))
      refine lv_goto (tgt := 1479) hx hb dL_law_590 (by decide) ?_
      exact law_end C0 (by rw [hAe]; exact hS) (lv_sub hl [2, 6] rfl) (Nat.le_of_ble_eq_true rfl) (Nat.le_of_ble_eq_true rfl)
set_option maxHeartbeats 4000000 in
set_option maxRecDepth 100000 in
theorem law_c7 {p : Program} {l : Launch} {e : Env} {s : State} {m : MethodId} {below : List Frame} {meth : Method} {c : Code} {b : Nat} {xs : Nat → Int32} (hst : l.stackTraces = false) (D : va_G) (C0 : lw_At p s m meth c b 4 xs) (hG : k_G (fun q : Nat => s.heap.size ≤ q) s s.heap) {H : Heap} {locs : List Loc} {ls : Array Slot} (h : law_I D s b H locs ls) : W p l e room_1 s m #[Value.ref b] below meth c H locs 124 2208 (lw_Z below #[Value.ref b] s) (F0 m 593 ls []) := by
  have C1 := C0
  obtain ⟨hx, hb, hr, hml, hown, hts, hX, hbl, hlocks, hgv⟩ := C1
  have hown : s.vm.findClass RL = some m.cls := hown
  have ht : ∀ v9 ∈ wsA, v9.before #[Value.ref b] s = true := fun v9 h9 => hts v9 (wsA_tbl h9)
  have S0 : k_C p s m #[Value.ref b] c cL_law 7 RL := ⟨hx, hb, hml, hown, ht⟩
  have hbA : ¬ (fun q : Nat => s.heap.size ≤ q) b := Nat.not_le.mpr hbl
  have hA : ∀ q : Nat, s.heap.size ≤ q → (fun q : Nat => s.heap.size ≤ q) q := fun _ h9 => h9
  obtain ⟨y1, hy1⟩ : ∃ z9 : Int32, z9 = xs 1 := ⟨_, rfl⟩
  obtain ⟨y2, hy2⟩ : ∃ z9 : Int32, z9 = xs 2 := ⟨_, rfl⟩
  obtain ⟨y3, hy3⟩ : ∃ z9 : Int32, z9 = xs 3 := ⟨_, rfl⟩
  have hs0 : (upd (fun _ => 0) 93 4) 0 = 0 := rfl
  have hs51 : (upd (fun _ => 0) 93 4) 51 = 0 := rfl
  have hs93 : (upd (fun _ => 0) 93 4) 93 = 4 := rfl
  have hs94 : (upd (fun _ => 0) 93 4) 94 = 0 := rfl
  have hs125 : (upd (fun _ => 0) 93 4) 125 = 0 := rfl
  have hs126 : (upd (fun _ => 0) 93 4) 126 = 0 := rfl
  obtain ⟨w, st, la, ld, ldA, lz, lzA, me, meA, li, ln, lnA, ll, llA, lc, lcA, hi, ri, zst, zla, zld, zldA, zlz, zlzA, zme, zmeA, zli, zln, zlnA, zll, zllA, zlc, zlcA, re, rd, rdA, rl, rlA, fo, foA, bu, buA, pa, mo, ms, mb, mlk, mfd, out, rf, K, KS, KC, KL, hrf, hK, hP, hD, hS, hl⟩ := h
  have hl : lv_has ls 7 [(4, .int 0), (3, .ref out), (2, .ref mo), (1, .ref w), (0, .ref b)] := hl
  generalize hAe : (fun q : Nat => s.heap.size ≤ q) = A at hG hD hS hA hbA
  have hP : va_P D vwCl [(w, .inr (7, [.ref st, .ref hi, .ref re, .ref fo, .ref bu, .ref pa])), (st, .inr (6, [.ref la, .ref me, .ref li, .int 4, .int 0, .int 0])), (la, .inr (2, [.ref ld, .ref lz])), (ld, .inr (4, [.ref ldA, .int 0])), (lz, .inr (4, [.ref lzA, .int 0])), (me, .inr (4, [.ref meA, .int 0])), (li, .inr (0, [.ref ln, .ref ll, .ref lc])), (ln, .inr (4, [.ref lnA, .int 0])), (ll, .inr (4, [.ref llA, .int 0])), (lc, .inr (4, [.ref lcA, .int 0])), (hi, .inr (5, [.ref ri, .int 0, .int 0])), (ri, .inl (KS, 6, .inr (.inr (.inr (.inr rf))))), (zst, .inr (6, [.ref zla, .ref zme, .ref zli, .int 4, .int 0, .int 0])), (zla, .inr (2, [.ref zld, .ref zlz])), (zld, .inr (4, [.ref zldA, .int 0])), (zlz, .inr (4, [.ref zlzA, .int 0])), (zme, .inr (4, [.ref zmeA, .int 0])), (zli, .inr (0, [.ref zln, .ref zll, .ref zlc])), (zln, .inr (4, [.ref zlnA, .int 0])), (zll, .inr (4, [.ref zllA, .int 0])), (zlc, .inr (4, [.ref zlcA, .int 0])), (mo, .inr (8, [.ref ms, .int 0, .ref mb, .int 0, .int 0, .ref mlk, .int 0, .ref mfd, .int 0, .int 0, .int 0, .int 0])), (ms, .inl (K, 889, .inl (upd (fun _ => 0) 93 4)))] H := hP.sub [0, 1, 2, 3, 5, 7, 9, 10, 12, 14, 16, 17, 18, 19, 20, 22, 24, 26, 27, 29, 31, 43, 44] rfl
  have hD : va_D A [(w, .inr (7, [.ref st, .ref hi, .ref re, .ref fo, .ref bu, .ref pa])), (st, .inr (6, [.ref la, .ref me, .ref li, .int 4, .int 0, .int 0])), (la, .inr (2, [.ref ld, .ref lz])), (ld, .inr (4, [.ref ldA, .int 0])), (lz, .inr (4, [.ref lzA, .int 0])), (me, .inr (4, [.ref meA, .int 0])), (li, .inr (0, [.ref ln, .ref ll, .ref lc])), (ln, .inr (4, [.ref lnA, .int 0])), (ll, .inr (4, [.ref llA, .int 0])), (lc, .inr (4, [.ref lcA, .int 0])), (hi, .inr (5, [.ref ri, .int 0, .int 0])), (ri, .inl (KS, 6, .inr (.inr (.inr (.inr rf))))), (zst, .inr (6, [.ref zla, .ref zme, .ref zli, .int 4, .int 0, .int 0])), (zla, .inr (2, [.ref zld, .ref zlz])), (zld, .inr (4, [.ref zldA, .int 0])), (zlz, .inr (4, [.ref zlzA, .int 0])), (zme, .inr (4, [.ref zmeA, .int 0])), (zli, .inr (0, [.ref zln, .ref zll, .ref zlc])), (zln, .inr (4, [.ref zlnA, .int 0])), (zll, .inr (4, [.ref zllA, .int 0])), (zlc, .inr (4, [.ref zlcA, .int 0])), (mo, .inr (8, [.ref ms, .int 0, .ref mb, .int 0, .int 0, .ref mlk, .int 0, .ref mfd, .int 0, .int 0, .int 0, .int 0])), (ms, .inl (K, 889, .inl (upd (fun _ => 0) 93 4)))] := hD.sub [0, 1, 2, 3, 5, 7, 9, 10, 12, 14, 16, 17, 18, 19, 20, 22, 24, 26, 27, 29, 31, 43, 44] (by decide) rfl
  refine lv_aload_n hx hb dL_law_593 rfl (lv_at hl 3 rfl) ?_
  have ct := k_cut_of (wc := [(w, .inr (7, [.ref st, .ref hi, .ref re, .ref fo, .ref bu, .ref pa])), (hi, .inr (5, [.ref ri, .int 0, .int 0])), (ri, .inl (KS, 6, .inr (.inr (.inr (.inr rf))))), (zst, .inr (6, [.ref zla, .ref zme, .ref zli, .int 4, .int 0, .int 0])), (zla, .inr (2, [.ref zld, .ref zlz])), (zld, .inr (4, [.ref zldA, .int 0])), (zlz, .inr (4, [.ref zlzA, .int 0])), (zme, .inr (4, [.ref zmeA, .int 0])), (zli, .inr (0, [.ref zln, .ref zll, .ref zlc])), (zln, .inr (4, [.ref zlnA, .int 0])), (zll, .inr (4, [.ref zllA, .int 0])), (zlc, .inr (4, [.ref zlcA, .int 0])), (st, .inr (6, [.ref la, .ref me, .ref li, .int 4, .int 0, .int 0])), (la, .inr (2, [.ref ld, .ref lz])), (ld, .inr (4, [.ref ldA, .int 0])), (lz, .inr (4, [.ref lzA, .int 0])), (me, .inr (4, [.ref meA, .int 0])), (li, .inr (0, [.ref ln, .ref ll, .ref lc])), (ln, .inr (4, [.ref lnA, .int 0])), (ll, .inr (4, [.ref llA, .int 0])), (lc, .inr (4, [.ref lcA, .int 0]))]) (wr := [(mo, .inr (8, [.ref ms, .int 0, .ref mb, .int 0, .int 0, .ref mlk, .int 0, .ref mfd, .int 0, .int 0, .int 0, .int 0])), (ms, .inl (K, 889, .inl (upd (fun _ => 0) 93 4)))]) (tc := [(KS, .object "BarcodeWand$State")]) hG hS hA hK hP hD [0, 10, 11, 12, 13, 14, 15, 16, 17, 18, 19, 20, 1, 2, 3, 4, 5, 6, 7, 8, 9] [21, 22] [1] rfl rfl (by decide) (by decide) (by decide) rfl
  refine k_endi (As := [.ref w]) ct (k_runV (As := []) (rest := []) S0 Lv_L_107 rfl (ci := 7) (q0 := 0) rfl rfl ct (c_W_clearM l D w st hi re fo bu pa ri KS rf zst zla zme zli 4 0 0 zld zlz zldA 0 zlzA 0 zmeA 0 zln zll zlc zlnA 0 zllA 0 zlcA 0 la me li 4 0 0 ld lz ldA lzA meA ln ll lc lnA llA lcA (by assumption) H.size) hl.1 rfl (Nat.le_of_ble_eq_true rfl) rfl dL_law_594 ⟨⟨Nat.le_of_ble_eq_true rfl, Nat.le_of_ble_eq_true rfl⟩, Nat.le_of_ble_eq_true rfl, Nat.le_of_ble_eq_true rfl⟩) rfl rfl (fun r_1 _ H locs hw_2 hP hD hK hS => ?_)
  have hK : va_K D vwCl [(K, .int), (KS, .object "BarcodeWand$State"), (KC, .char), (KL, .long)] s := hK
  have hP : va_P D vwCl [(mo, .inr (8, [.ref ms, .int 0, .ref mb, .int 0, .int 0, .ref mlk, .int 0, .ref mfd, .int 0, .int 0, .int 0, .int 0])), (ms, .inl (K, 889, .inl (upd (fun _ => 0) 93 4))), (w, .inr (7, [.ref st, .ref hi, .ref re, .ref fo, .ref bu, .ref pa])), (hi, .inr (5, [.ref ri, .int 1, .int 1])), (ri, .inl (KS, 6, .inr (.inr (.inr (.inr rf))))), (zst, .inr (6, [.ref zla, .ref zme, .ref zli, .int 4, .int 0, .int 0])), (zla, .inr (2, [.ref zld, .ref zlz])), (zld, .inr (4, [.ref zldA, .int 0])), (zlz, .inr (4, [.ref zlzA, .int 0])), (zme, .inr (4, [.ref zmeA, .int 0])), (zli, .inr (0, [.ref zln, .ref zll, .ref zlc])), (zln, .inr (4, [.ref zlnA, .int 0])), (zll, .inr (4, [.ref zllA, .int 0])), (zlc, .inr (4, [.ref zlcA, .int 0])), (st, .inr (6, [.ref la, .ref me, .ref li, .int 4, .int 0, .int 0])), (la, .inr (2, [.ref ld, .ref lz])), (ld, .inr (4, [.ref ldA, .int 0])), (lz, .inr (4, [.ref lzA, .int 0])), (me, .inr (4, [.ref meA, .int 0])), (li, .inr (0, [.ref ln, .ref ll, .ref lc])), (ln, .inr (4, [.ref lnA, .int 0])), (ll, .inr (4, [.ref llA, .int 0])), (lc, .inr (4, [.ref lcA, .int 0]))] H := hP
  have hD : va_D A [(mo, .inr (8, [.ref ms, .int 0, .ref mb, .int 0, .int 0, .ref mlk, .int 0, .ref mfd, .int 0, .int 0, .int 0, .int 0])), (ms, .inl (K, 889, .inl (upd (fun _ => 0) 93 4))), (w, .inr (7, [.ref st, .ref hi, .ref re, .ref fo, .ref bu, .ref pa])), (hi, .inr (5, [.ref ri, .int 1, .int 1])), (ri, .inl (KS, 6, .inr (.inr (.inr (.inr rf))))), (zst, .inr (6, [.ref zla, .ref zme, .ref zli, .int 4, .int 0, .int 0])), (zla, .inr (2, [.ref zld, .ref zlz])), (zld, .inr (4, [.ref zldA, .int 0])), (zlz, .inr (4, [.ref zlzA, .int 0])), (zme, .inr (4, [.ref zmeA, .int 0])), (zli, .inr (0, [.ref zln, .ref zll, .ref zlc])), (zln, .inr (4, [.ref zlnA, .int 0])), (zll, .inr (4, [.ref zllA, .int 0])), (zlc, .inr (4, [.ref zlcA, .int 0])), (st, .inr (6, [.ref la, .ref me, .ref li, .int 4, .int 0, .int 0])), (la, .inr (2, [.ref ld, .ref lz])), (ld, .inr (4, [.ref ldA, .int 0])), (lz, .inr (4, [.ref lzA, .int 0])), (me, .inr (4, [.ref meA, .int 0])), (li, .inr (0, [.ref ln, .ref ll, .ref lc])), (ln, .inr (4, [.ref lnA, .int 0])), (ll, .inr (4, [.ref llA, .int 0])), (lc, .inr (4, [.ref lcA, .int 0]))] := hD
  have hw_2 : r_1 = 0 := hw_2
  have hw_2 := hw_2.symm
  subst hw_2
  refine k_nrm (y := 0) rfl ?_
  refine lv_aload_n hx hb dL_law_597 rfl (lv_at hl 2 rfl) ?_
  have ct := k_cut_of (wc := [(mo, .inr (8, [.ref ms, .int 0, .ref mb, .int 0, .int 0, .ref mlk, .int 0, .ref mfd, .int 0, .int 0, .int 0, .int 0])), (ms, .inl (K, 889, .inl (upd (fun _ => 0) 93 4)))]) (wr := [(w, .inr (7, [.ref st, .ref hi, .ref re, .ref fo, .ref bu, .ref pa])), (hi, .inr (5, [.ref ri, .int 1, .int 1])), (ri, .inl (KS, 6, .inr (.inr (.inr (.inr rf))))), (zst, .inr (6, [.ref zla, .ref zme, .ref zli, .int 4, .int 0, .int 0])), (zla, .inr (2, [.ref zld, .ref zlz])), (zld, .inr (4, [.ref zldA, .int 0])), (zlz, .inr (4, [.ref zlzA, .int 0])), (zme, .inr (4, [.ref zmeA, .int 0])), (zli, .inr (0, [.ref zln, .ref zll, .ref zlc])), (zln, .inr (4, [.ref zlnA, .int 0])), (zll, .inr (4, [.ref zllA, .int 0])), (zlc, .inr (4, [.ref zlcA, .int 0])), (st, .inr (6, [.ref la, .ref me, .ref li, .int 4, .int 0, .int 0])), (la, .inr (2, [.ref ld, .ref lz])), (ld, .inr (4, [.ref ldA, .int 0])), (lz, .inr (4, [.ref lzA, .int 0])), (me, .inr (4, [.ref meA, .int 0])), (li, .inr (0, [.ref ln, .ref ll, .ref lc])), (ln, .inr (4, [.ref lnA, .int 0])), (ll, .inr (4, [.ref llA, .int 0])), (lc, .inr (4, [.ref lcA, .int 0]))]) (tc := [(K, .int)]) hG hS hA hK hP hD [0, 1] [2, 3, 4, 5, 6, 7, 8, 9, 10, 11, 12, 13, 14, 15, 16, 17, 18, 19, 20, 21, 22] [0] rfl rfl (by decide) (by decide) (by decide) rfl
  refine k_endi (As := [.ref mo]) ct (k_runV (As := []) (rest := [.int 0]) S0 Lv_L_110 rfl (ci := 8) (q0 := 0) rfl rfl ct (c_M_clearM l D mo ms mb 0 mlk 0 mfd 0 0 0 0 K (upd (fun _ => 0) 93 4) (by first | assumption | exact (cpf_lo (by decide)).trans (by assumption)) (by first | assumption | exact (cpf_lo (by decide)).trans (by assumption)) (by first | assumption | exact (cpf_lo (by decide)).trans (by assumption)) (by first | assumption | exact (cpf_lo (by decide)).trans (by assumption)) (by first | assumption | exact (cpf_lo (by decide)).trans (by assumption)) (by first | assumption | exact (cpf_lo (by decide)).trans (by assumption)) H.size) hl.1 rfl (Nat.le_of_ble_eq_true rfl) rfl dL_law_598 ⟨⟨Nat.le_of_ble_eq_true rfl, Nat.le_of_ble_eq_true rfl⟩, Nat.le_of_ble_eq_true rfl, Nat.le_of_ble_eq_true rfl⟩) rfl rfl (fun r_3 sg_4 H locs hw_5 hP hD hK hS => ?_)
  have hK : va_K D vwCl [(K, .int), (KS, .object "BarcodeWand$State"), (KC, .char), (KL, .long)] s := hK
  have hP : va_P D vwCl [(w, .inr (7, [.ref st, .ref hi, .ref re, .ref fo, .ref bu, .ref pa])), (hi, .inr (5, [.ref ri, .int 1, .int 1])), (ri, .inl (KS, 6, .inr (.inr (.inr (.inr rf))))), (zst, .inr (6, [.ref zla, .ref zme, .ref zli, .int 4, .int 0, .int 0])), (zla, .inr (2, [.ref zld, .ref zlz])), (zld, .inr (4, [.ref zldA, .int 0])), (zlz, .inr (4, [.ref zlzA, .int 0])), (zme, .inr (4, [.ref zmeA, .int 0])), (zli, .inr (0, [.ref zln, .ref zll, .ref zlc])), (zln, .inr (4, [.ref zlnA, .int 0])), (zll, .inr (4, [.ref zllA, .int 0])), (zlc, .inr (4, [.ref zlcA, .int 0])), (st, .inr (6, [.ref la, .ref me, .ref li, .int 4, .int 0, .int 0])), (la, .inr (2, [.ref ld, .ref lz])), (ld, .inr (4, [.ref ldA, .int 0])), (lz, .inr (4, [.ref lzA, .int 0])), (me, .inr (4, [.ref meA, .int 0])), (li, .inr (0, [.ref ln, .ref ll, .ref lc])), (ln, .inr (4, [.ref lnA, .int 0])), (ll, .inr (4, [.ref llA, .int 0])), (lc, .inr (4, [.ref lcA, .int 0])), (mo, .inr (8, [.ref ms, .int 1, .ref mb, .int 0, .int 0, .ref mlk, .int 0, .ref mfd, .int 0, .int 0, .int 0, .int 0])), (ms, .inl (K, 889, .inl sg_4))] H := hP
  have hD : va_D A [(w, .inr (7, [.ref st, .ref hi, .ref re, .ref fo, .ref bu, .ref pa])), (hi, .inr (5, [.ref ri, .int 1, .int 1])), (ri, .inl (KS, 6, .inr (.inr (.inr (.inr rf))))), (zst, .inr (6, [.ref zla, .ref zme, .ref zli, .int 4, .int 0, .int 0])), (zla, .inr (2, [.ref zld, .ref zlz])), (zld, .inr (4, [.ref zldA, .int 0])), (zlz, .inr (4, [.ref zlzA, .int 0])), (zme, .inr (4, [.ref zmeA, .int 0])), (zli, .inr (0, [.ref zln, .ref zll, .ref zlc])), (zln, .inr (4, [.ref zlnA, .int 0])), (zll, .inr (4, [.ref zllA, .int 0])), (zlc, .inr (4, [.ref zlcA, .int 0])), (st, .inr (6, [.ref la, .ref me, .ref li, .int 4, .int 0, .int 0])), (la, .inr (2, [.ref ld, .ref lz])), (ld, .inr (4, [.ref ldA, .int 0])), (lz, .inr (4, [.ref lzA, .int 0])), (me, .inr (4, [.ref meA, .int 0])), (li, .inr (0, [.ref ln, .ref ll, .ref lc])), (ln, .inr (4, [.ref lnA, .int 0])), (ll, .inr (4, [.ref llA, .int 0])), (lc, .inr (4, [.ref lcA, .int 0])), (mo, .inr (8, [.ref ms, .int 1, .ref mb, .int 0, .int 0, .ref mlk, .int 0, .ref mfd, .int 0, .int 0, .int 0, .int 0])), (ms, .inl (K, 889, .inl sg_4))] := hD
  have hw_5 : r_3 = 0 := hw_5
  have hw_5 := hw_5.symm
  subst hw_5
  refine k_nrm (y := 0) rfl ?_
  refine lv_icmp_eq (tgt := 1479) hx hb dL_law_601 (by decide) (fun _ => ?_) (fun c9 => absurd (by decide) c9)
  exact law_end C0 (by rw [hAe]; exact hS) (lv_sub hl [0, 4] rfl) (Nat.le_of_ble_eq_true rfl) (Nat.le_of_ble_eq_true rfl)
