
set_option maxHeartbeats 4000000 in
set_option maxRecDepth 100000 in
theorem law_c16 {p : Program} {l : Launch} {e : Env} {s : State} {m : MethodId} {below : List Frame} {meth : Method} {c : Code} {b : Nat} {xs : Nat → Int32} (hst : l.stackTraces = false) (D : va_G) (C0 : lw_At p s m meth c b 4 xs) (hG : k_G (fun q : Nat => s.heap.size ≤ q) s s.heap) {H : Heap} {locs : List Loc} {ls : Array Slot} (h : law_I D s b H locs ls) : W p l e room_1 s m #[Value.ref b] below meth c H locs 124 2208 (lw_Z below #[Value.ref b] s) (F0 m 910 ls []) := by
  have C1 := C0
  obtain ⟨hx, hb, hr, hml, hown, hts, hX, hbl, hlocks, hgv⟩ := C1
  have hown : s.vm.findClass RL = some m.cls := hown
  have ht : ∀ v9 ∈ wsA, v9.before #[Value.ref b] s = true := fun v9 h9 => hts v9 (wsA_tbl h9)
  have S0 : k_C p s m #[Value.ref b] c cL_law 7 RL := ⟨hx, hb, hml, hown, ht⟩
  have hbA : ¬ (fun q : Nat => s.heap.size ≤ q) b := Nat.not_le.mpr hbl
  have hA : ∀ q : Nat, s.heap.size ≤ q → (fun q : Nat => s.heap.size ≤ q) q := fun _ h9 => h9
  obtain ⟨y1, hy1⟩ : ∃ z9 : Int32, z9 = xs 1 := ⟨_, rfl⟩
  obtain ⟨y2, hy2⟩ : ∃ z9 : Int32, z9 = xs 2 := ⟨_, rfl⟩
  obtain ⟨y3, hy3⟩ : ∃ z9 : Int32, z9 = xs 3 := ⟨_, rfl⟩
  have hs0 : (upd (fun _ => 0) 93 4) 0 = 0 := rfl
  have hs51 : (upd (fun _ => 0) 93 4) 51 = 0 := rfl
  have hs93 : (upd (fun _ => 0) 93 4) 93 = 4 := rfl
  have hs94 : (upd (fun _ => 0) 93 4) 94 = 0 := rfl
  have hs125 : (upd (fun _ => 0) 93 4) 125 = 0 := rfl
  have hs126 : (upd (fun _ => 0) 93 4) 126 = 0 := rfl
  obtain ⟨w, st, la, ld, ldA, lz, lzA, me, meA, li, ln, lnA, ll, llA, lc, lcA, hi, ri, zst, zla, zld, zldA, zlz, zlzA, zme, zmeA, zli, zln, zlnA, zll, zllA, zlc, zlcA, re, rd, rdA, rl, rlA, fo, foA, bu, buA, pa, mo, ms, mb, mlk, mfd, out, rf, K, KS, KC, KL, hrf, hK, hP, hD, hS, hl⟩ := h
  have hl : lv_has ls 7 [(4, .int 0), (3, .ref out), (2, .ref mo), (1, .ref w), (0, .ref b)] := hl
  generalize hAe : (fun q : Nat => s.heap.size ≤ q) = A at hG hD hS hA hbA
  have hP : va_P D vwCl [(w, .inr (7, [.ref st, .ref hi, .ref re, .ref fo, .ref bu, .ref pa])), (st, .inr (6, [.ref la, .ref me, .ref li, .int 4, .int 0, .int 0])), (li, .inr (0, [.ref ln, .ref ll, .ref lc])), (ln, .inr (4, [.ref lnA, .int 0])), (mo, .inr (8, [.ref ms, .int 0, .ref mb, .int 0, .int 0, .ref mlk, .int 0, .ref mfd, .int 0, .int 0, .int 0, .int 0])), (ms, .inl (K, 889, .inl (upd (fun _ => 0) 93 4)))] H := hP.sub [0, 1, 9, 10, 43, 44] rfl
  have hD : va_D A [(w, .inr (7, [.ref st, .ref hi, .ref re, .ref fo, .ref bu, .ref pa])), (st, .inr (6, [.ref la, .ref me, .ref li, .int 4, .int 0, .int 0])), (li, .inr (0, [.ref ln, .ref ll, .ref lc])), (ln, .inr (4, [.ref lnA, .int 0])), (mo, .inr (8, [.ref ms, .int 0, .ref mb, .int 0, .int 0, .ref mlk, .int 0, .ref mfd, .int 0, .int 0, .int 0, .int 0])), (ms, .inl (K, 889, .inl (upd (fun _ => 0) 93 4)))] := hD.sub [0, 1, 9, 10, 43, 44] (by decide) rfl
  refine lv_aload_n hx hb dL_law_910 rfl (lv_at hl 3 rfl) ?_
  have ct := k_cut_of (wc := [(w, .inr (7, [.ref st, .ref hi, .ref re, .ref fo, .ref bu, .ref pa])), (st, .inr (6, [.ref la, .ref me, .ref li, .int 4, .int 0, .int 0])), (li, .inr (0, [.ref ln, .ref ll, .ref lc])), (ln, .inr (4, [.ref lnA, .int 0]))]) (wr := [(mo, .inr (8, [.ref ms, .int 0, .ref mb, .int 0, .int 0, .ref mlk, .int 0, .ref mfd, .int 0, .int 0, .int 0, .int 0])), (ms, .inl (K, 889, .inl (upd (fun _ => 0) 93 4)))]) (tc := []) hG hS hA hK hP hD [0, 1, 2, 3] [4, 5] [] rfl rfl (by decide) (by decide) (by decide) rfl
  refine k_endi (As := [.ref w]) ct (k_runV (As := []) (rest := []) S0 Lv_L_140 rfl (ci := 7) (q0 := 0) rfl rfl ct (c_W_codes l D w st hi re fo bu pa la me li 4 0 0 ln ll lc lnA H.size) hl.1 rfl (Nat.le_of_ble_eq_true rfl) rfl dL_law_911 ⟨⟨Nat.le_of_ble_eq_true rfl, Nat.le_of_ble_eq_true rfl⟩, Nat.le_of_ble_eq_true rfl, Nat.le_of_ble_eq_true rfl⟩) rfl rfl (fun r_1 _ H locs hw_2 hP hD hK hS => ?_)
  have hK : va_K D vwCl [(K, .int), (KS, .object "BarcodeWand$State"), (KC, .char), (KL, .long)] s := hK
  have hP : va_P D vwCl [(mo, .inr (8, [.ref ms, .int 0, .ref mb, .int 0, .int 0, .ref mlk, .int 0, .ref mfd, .int 0, .int 0, .int 0, .int 0])), (ms, .inl (K, 889, .inl (upd (fun _ => 0) 93 4))), (w, .inr (7, [.ref st, .ref hi, .ref re, .ref fo, .ref bu, .ref pa])), (st, .inr (6, [.ref la, .ref me, .ref li, .int 4, .int 0, .int 0])), (li, .inr (0, [.ref ln, .ref ll, .ref lc])), (ln, .inr (4, [.ref lnA, .int 0]))] H := hP
  have hD : va_D A [(mo, .inr (8, [.ref ms, .int 0, .ref mb, .int 0, .int 0, .ref mlk, .int 0, .ref mfd, .int 0, .int 0, .int 0, .int 0])), (ms, .inl (K, 889, .inl (upd (fun _ => 0) 93 4))), (w, .inr (7, [.ref st, .ref hi, .ref re, .ref fo, .ref bu, .ref pa])), (st, .inr (6, [.ref la, .ref me, .ref li, .int 4, .int 0, .int 0])), (li, .inr (0, [.ref ln, .ref ll, .ref lc])), (ln, .inr (4, [.ref lnA, .int 0]))] := hD
  have hw_2 : r_1 = 0 := hw_2
  have hw_2 := hw_2.symm
  subst hw_2
  refine k_nrm (y := 0) rfl ?_
  refine lv_aload_n hx hb dL_law_914 rfl (lv_at hl 2 rfl) ?_
  have ct := k_cut_of (wc := [(mo, .inr (8, [.ref ms, .int 0, .ref mb, .int 0, .int 0, .ref mlk, .int 0, .ref mfd, .int 0, .int 0, .int 0, .int 0])), (ms, .inl (K, 889, .inl (upd (fun _ => 0) 93 4)))]) (wr := [(w, .inr (7, [.ref st, .ref hi, .ref re, .ref fo, .ref bu, .ref pa])), (st, .inr (6, [.ref la, .ref me, .ref li, .int 4, .int 0, .int 0])), (li, .inr (0, [.ref ln, .ref ll, .ref lc])), (ln, .inr (4, [.ref lnA, .int 0]))]) (tc := [(K, .int)]) hG hS hA hK hP hD [0, 1] [2, 3, 4, 5] [0] rfl rfl (by decide) (by decide) (by decide) rfl
  refine k_endi (As := [.ref mo]) ct (k_runV (As := []) (rest := [.int 0]) S0 Lv_L_143 rfl (ci := 8) (q0 := 0) rfl rfl ct (c_M_codes l D mo ms 0 mb 0 mlk 0 mfd 0 0 0 0 K (upd (fun _ => 0) 93 4) (by first | assumption | exact (cpf_lo (by decide)).trans (by assumption)) (by first | assumption | exact (cpf_lo (by decide)).trans (by assumption)) (by first | assumption | exact (cpf_lo (by decide)).trans (by assumption)) (by first | assumption | exact (cpf_lo (by decide)).trans (by assumption)) (by first | assumption | exact (cpf_lo (by decide)).trans (by assumption)) (by first | assumption | exact (cpf_lo (by decide)).trans (by assumption)) H.size) hl.1 rfl (Nat.le_of_ble_eq_true rfl) rfl dL_law_915 ⟨⟨Nat.le_of_ble_eq_true rfl, Nat.le_of_ble_eq_true rfl⟩, Nat.le_of_ble_eq_true rfl, Nat.le_of_ble_eq_true rfl⟩) rfl rfl (fun r_3 _ H locs hw_4 hP hD hK hS => ?_)
  have hK : va_K D vwCl [(K, .int), (KS, .object "BarcodeWand$State"), (KC, .char), (KL, .long)] s := hK
  have hP : va_P D vwCl [(w, .inr (7, [.ref st, .ref hi, .ref re, .ref fo, .ref bu, .ref pa])), (st, .inr (6, [.ref la, .ref me, .ref li, .int 4, .int 0, .int 0])), (li, .inr (0, [.ref ln, .ref ll, .ref lc])), (ln, .inr (4, [.ref lnA, .int 0])), (mo, .inr (8, [.ref ms, .int 0, .ref mb, .int 0, .int 0, .ref mlk, .int 0, .ref mfd, .int 0, .int 0, .int 0, .int 0])), (ms, .inl (K, 889, .inl (upd (fun _ => 0) 93 4)))] H := hP
  have hD : va_D A [(w, .inr (7, [.ref st, .ref hi, .ref re, .ref fo, .ref bu, .ref pa])), (st, .inr (6, [.ref la, .ref me, .ref li, .int 4, .int 0, .int 0])), (li, .inr (0, [.ref ln, .ref ll, .ref lc])), (ln, .inr (4, [.ref lnA, .int 0])), (mo, .inr (8, [.ref ms, .int 0, .ref mb, .int 0, .int 0, .ref mlk, .int 0, .ref mfd, .int 0, .int 0, .int 0, .int 0])), (ms, .inl (K, 889, .inl (upd (fun _ => 0) 93 4)))] := hD
  have hw_4 : r_3 = 0 := hw_4
  have hw_4 := hw_4.symm
  subst hw_4
  refine k_nrm (y := 0) rfl ?_
  refine lv_icmp_eq (tgt := 1479) hx hb dL_law_918 (by decide) (fun _ => ?_) (fun c9 => absurd (by decide) c9)
  exact law_end C0 (by rw [hAe]; exact hS) (lv_sub hl [0, 4] rfl) (Nat.le_of_ble_eq_true rfl) (Nat.le_of_ble_eq_true rfl)
set_option maxHeartbeats 4000000 in
set_option maxRecDepth 100000 in
theorem law_c17 {p : Program} {l : Launch} {e : Env} {s : State} {m : MethodId} {below : List Frame} {meth : Method} {c : Code} {b : Nat} {xs : Nat → Int32} (hst : l.stackTraces = false) (D : va_G) (C0 : lw_At p s m meth c b 4 xs) (hG : k_G (fun q : Nat => s.heap.size ≤ q) s s.heap) {H : Heap} {locs : List Loc} {ls : Array Slot} (h : law_I D s b H locs ls) : W p l e room_1 s m #[Value.ref b] below meth c H locs 124 2208 (lw_Z below #[Value.ref b] s) (F0 m 923 ls []) := by
  have C1 := C0
  obtain ⟨hx, hb, hr, hml, hown, hts, hX, hbl, hlocks, hgv⟩ := C1
  have hown : s.vm.findClass RL = some m.cls := hown
  have ht : ∀ v9 ∈ wsA, v9.before #[Value.ref b] s = true := fun v9 h9 => hts v9 (wsA_tbl h9)
  have S0 : k_C p s m #[Value.ref b] c cL_law 7 RL := ⟨hx, hb, hml, hown, ht⟩
  have hbA : ¬ (fun q : Nat => s.heap.size ≤ q) b := Nat.not_le.mpr hbl
  have hA : ∀ q : Nat, s.heap.size ≤ q → (fun q : Nat => s.heap.size ≤ q) q := fun _ h9 => h9
  obtain ⟨y1, hy1⟩ : ∃ z9 : Int32, z9 = xs 1 := ⟨_, rfl⟩
  obtain ⟨y2, hy2⟩ : ∃ z9 : Int32, z9 = xs 2 := ⟨_, rfl⟩
  obtain ⟨y3, hy3⟩ : ∃ z9 : Int32, z9 = xs 3 := ⟨_, rfl⟩
  have hs0 : (upd (fun _ => 0) 93 4) 0 = 0 := rfl
  have hs51 : (upd (fun _ => 0) 93 4) 51 = 0 := rfl
  have hs93 : (upd (fun _ => 0) 93 4) 93 = 4 := rfl
  have hs94 : (upd (fun _ => 0) 93 4) 94 = 0 := rfl
  have hs125 : (upd (fun _ => 0) 93 4) 125 = 0 := rfl
  have hs126 : (upd (fun _ => 0) 93 4) 126 = 0 := rfl
  obtain ⟨w, st, la, ld, ldA, lz, lzA, me, meA, li, ln, lnA, ll, llA, lc, lcA, hi, ri, zst, zla, zld, zldA, zlz, zlzA, zme, zmeA, zli, zln, zlnA, zll, zllA, zlc, zlcA, re, rd, rdA, rl, rlA, fo, foA, bu, buA, pa, mo, ms, mb, mlk, mfd, out, rf, K, KS, KC, KL, hrf, hK, hP, hD, hS, hl⟩ := h
  have hl : lv_has ls 7 [(4, .int 0), (3, .ref out), (2, .ref mo), (1, .ref w), (0, .ref b)] := hl
  generalize hAe : (fun q : Nat => s.heap.size ≤ q) = A at hG hD hS hA hbA
  have hP : va_P D vwCl [(w, .inr (7, [.ref st, .ref hi, .ref re, .ref fo, .ref bu, .ref pa])), (st, .inr (6, [.ref la, .ref me, .ref li, .int 4, .int 0, .int 0])), (li, .inr (0, [.ref ln, .ref ll, .ref lc])), (ln, .inr (4, [.ref lnA, .int 0])), (mo, .inr (8, [.ref ms, .int 0, .ref mb, .int 0, .int 0, .ref mlk, .int 0, .ref mfd, .int 0, .int 0, .int 0, .int 0])), (ms, .inl (K, 889, .inl (upd (fun _ => 0) 93 4))), (out, .inl (KL, 1, .inr (.inl (fun _ => 0))))] H := hP.sub [0, 1, 9, 10, 43, 44, 48] rfl
  have hD : va_D A [(w, .inr (7, [.ref st, .ref hi, .ref re, .ref fo, .ref bu, .ref pa])), (st, .inr (6, [.ref la, .ref me, .ref li, .int 4, .int 0, .int 0])), (li, .inr (0, [.ref ln, .ref ll, .ref lc])), (ln, .inr (4, [.ref lnA, .int 0])), (mo, .inr (8, [.ref ms, .int 0, .ref mb, .int 0, .int 0, .ref mlk, .int 0, .ref mfd, .int 0, .int 0, .int 0, .int 0])), (ms, .inl (K, 889, .inl (upd (fun _ => 0) 93 4))), (out, .inl (KL, 1, .inr (.inl (fun _ => 0))))] := hD.sub [0, 1, 9, 10, 43, 44, 48] (by decide) rfl
  refine lv_aload_n hx hb dL_law_923 rfl (lv_at hl 3 rfl) ?_
  refine lv_aload_n hx hb dL_law_924 rfl (lv_at hl 4 rfl) ?_
  refine lv_iload hx hb dL_law_925 (lv_at hl 0 rfl) ?_
  refine lv_iconst (v := 1) hx hb dL_law_927 (by decide) ?_
  refine lv_iadd hx hb dL_law_928 ?_
  refine k_nrm (y := 1) (by decide) ?_
  refine va_sld hx hb hX hbl hbA hS (by unfold vp_in; decide) dL_law_929 ?_
  refine k_nrm (y := y1) (by rw [hy1]; rfl) ?_
  refine lv_aload_n hx hb dL_law_930 rfl (lv_at hl 1 rfl) ?_
  have ct := k_cut_of (wc := [(w, .inr (7, [.ref st, .ref hi, .ref re, .ref fo, .ref bu, .ref pa])), (st, .inr (6, [.ref la, .ref me, .ref li, .int 4, .int 0, .int 0])), (li, .inr (0, [.ref ln, .ref ll, .ref lc])), (ln, .inr (4, [.ref lnA, .int 0])), (out, .inl (KL, 1, .inr (.inl (fun _ => 0))))]) (wr := [(mo, .inr (8, [.ref ms, .int 0, .ref mb, .int 0, .int 0, .ref mlk, .int 0, .ref mfd, .int 0, .int 0, .int 0, .int 0])), (ms, .inl (K, 889, .inl (upd (fun _ => 0) 93 4)))]) (tc := [(KL, .long)]) hG hS hA hK hP hD [0, 1, 2, 3, 6] [4, 5] [3] rfl rfl (by decide) (by decide) (by decide) rfl
  refine k_endi (As := [.ref w, .int y1, .ref out]) ct (k_runSW (As := [.ref w, .int y1, .ref out]) (rest := []) S0 Ls_L_144 ct (c_L_code l hst D w st hi re fo bu pa la me li 4 0 0 ln ll lc lnA y1 out KL (fun _ => 0) H.size) hl.1 rfl (Nat.le_of_ble_eq_true rfl) rfl dL_law_931 ⟨⟨Nat.le_of_ble_eq_true rfl, Nat.le_of_ble_eq_true rfl⟩, Nat.le_of_ble_eq_true rfl, Nat.le_of_ble_eq_true rfl⟩) rfl rfl (fun r_1 og_2 H locs hw_3 hP hD hK hS => ?_)
  have hK : va_K D vwCl [(K, .int), (KS, .object "BarcodeWand$State"), (KC, .char), (KL, .long)] s := hK
  have hP : va_P D vwCl [(mo, .inr (8, [.ref ms, .int 0, .ref mb, .int 0, .int 0, .ref mlk, .int 0, .ref mfd, .int 0, .int 0, .int 0, .int 0])), (ms, .inl (K, 889, .inl (upd (fun _ => 0) 93 4))), (out, .inl (KL, 1, .inr (.inl og_2)))] H := hP
  have hD : va_D A [(mo, .inr (8, [.ref ms, .int 0, .ref mb, .int 0, .int 0, .ref mlk, .int 0, .ref mfd, .int 0, .int 0, .int 0, .int 0])), (ms, .inl (K, 889, .inl (upd (fun _ => 0) 93 4))), (out, .inl (KL, 1, .inr (.inl og_2)))] := hD
  have hw_3 : r_1 = 1 := hw_3
  have hw_3 := hw_3.symm
  subst hw_3
  refine k_nrm (y := 1) rfl ?_
  refine lv_istore (lv' := [(5, .int 1), (4, .int 0), (3, .ref out), (2, .ref mo), (1, .ref w), (0, .ref b)]) hx hb dL_law_934 hl (by decide) rfl (fun ls hl => ?_)
  refine lv_aload_n hx hb dL_law_936 rfl (lv_at hl 3 rfl) ?_
  refine lv_aload_n hx hb dL_law_937 rfl (lv_at hl 5 rfl) ?_
  refine lv_iload hx hb dL_law_938 (lv_at hl 1 rfl) ?_
  refine lv_iconst (v := 1) hx hb dL_law_940 (by decide) ?_
  refine lv_iadd hx hb dL_law_941 ?_
  refine k_nrm (y := 1) (by decide) ?_
  refine va_sld hx hb hX hbl hbA hS (by unfold vp_in; decide) dL_law_942 ?_
  refine k_nrm (y := y1) (by rw [hy1]; rfl) ?_
  have ct := k_cut_of (wc := [(mo, .inr (8, [.ref ms, .int 0, .ref mb, .int 0, .int 0, .ref mlk, .int 0, .ref mfd, .int 0, .int 0, .int 0, .int 0])), (ms, .inl (K, 889, .inl (upd (fun _ => 0) 93 4)))]) (wr := [(out, .inl (KL, 1, .inr (.inl og_2)))]) (tc := [(K, .int)]) hG hS hA hK hP hD [0, 1] [2] [0] rfl rfl (by decide) (by decide) (by decide) rfl
  refine k_endi (As := [.ref mo, .int y1]) ct (k_runV (As := [.int y1]) (rest := []) S0 Lv_L_146 rfl (ci := 8) (q0 := 0) rfl rfl ct (c_M_code l D mo ms 0 mb 0 mlk 0 mfd 0 0 0 0 K (upd (fun _ => 0) 93 4) y1 (by first | assumption | exact (cpf_lo (by decide)).trans (by assumption)) (by first | assumption | exact (cpf_lo (by decide)).trans (by assumption)) (by first | assumption | exact (cpf_lo (by decide)).trans (by assumption)) (by first | assumption | exact (cpf_lo (by decide)).trans (by assumption)) (by first | assumption | exact (cpf_lo (by decide)).trans (by assumption)) (by first | assumption | exact (cpf_lo (by decide)).trans (by assumption)) H.size) hl.1 rfl (Nat.le_of_ble_eq_true rfl) rfl dL_law_943 ⟨⟨Nat.le_of_ble_eq_true rfl, Nat.le_of_ble_eq_true rfl⟩, Nat.le_of_ble_eq_true rfl, Nat.le_of_ble_eq_true rfl⟩) rfl rfl (fun r_4 _ H locs hw_5 hP hD hK hS => ?_)
  have hK : va_K D vwCl [(K, .int), (KS, .object "BarcodeWand$State"), (KC, .char), (KL, .long)] s := hK
  have hP : va_P D vwCl [(out, .inl (KL, 1, .inr (.inl og_2))), (mo, .inr (8, [.ref ms, .int 0, .ref mb, .int 0, .int 1, .ref mlk, .int 0, .ref mfd, .int 0, .int 0, .int 0, .int 0])), (ms, .inl (K, 889, .inl (upd (fun _ => 0) 93 4)))] H := hP
  have hD : va_D A [(out, .inl (KL, 1, .inr (.inl og_2))), (mo, .inr (8, [.ref ms, .int 0, .ref mb, .int 0, .int 1, .ref mlk, .int 0, .ref mfd, .int 0, .int 0, .int 0, .int 0])), (ms, .inl (K, 889, .inl (upd (fun _ => 0) 93 4)))] := hD
  have hw_5 : r_4 = 0 := hw_5
  have hw_5 := hw_5.symm
  subst hw_5
  refine k_nrm (y := 0) rfl ?_
  refine lv_istore (lv' := [(6, .int 0), (5, .int 1), (4, .int 0), (3, .ref out), (2, .ref mo), (1, .ref w), (0, .ref b)]) hx hb dL_law_946 hl (by decide) rfl (fun ls hl => ?_)
  refine lv_aload_n hx hb dL_law_948 rfl (lv_at hl 4 rfl) ?_
  have ct := k_cut_of (wc := [(mo, .inr (8, [.ref ms, .int 0, .ref mb, .int 0, .int 1, .ref mlk, .int 0, .ref mfd, .int 0, .int 0, .int 0, .int 0]))]) (wr := [(out, .inl (KL, 1, .inr (.inl og_2))), (ms, .inl (K, 889, .inl (upd (fun _ => 0) 93 4)))]) (tc := []) hG hS hA hK hP hD [1] [0, 2] [] rfl rfl (by decide) (by decide) (by decide) rfl
  refine k_endi (As := [.ref mo]) ct (k_runV (As := []) (rest := []) S0 Lv_L_83 rfl (ci := 8) (q0 := 0) rfl rfl ct (c_M_thrown2 l D mo ms 0 mb 0 1 mlk 0 mfd 0 0 0 0 H.size) hl.1 rfl (Nat.le_of_ble_eq_true rfl) rfl dL_law_949 ⟨⟨Nat.le_of_ble_eq_true rfl, Nat.le_of_ble_eq_true rfl⟩, Nat.le_of_ble_eq_true rfl, Nat.le_of_ble_eq_true rfl⟩) rfl rfl (fun r_6 _ H locs hw_7 hP hD hK hS => ?_)
  have hK : va_K D vwCl [(K, .int), (KS, .object "BarcodeWand$State"), (KC, .char), (KL, .long)] s := hK
  have hP : va_P D vwCl [(out, .inl (KL, 1, .inr (.inl og_2))), (ms, .inl (K, 889, .inl (upd (fun _ => 0) 93 4))), (mo, .inr (8, [.ref ms, .int 0, .ref mb, .int 0, .int 1, .ref mlk, .int 0, .ref mfd, .int 0, .int 0, .int 0, .int 0]))] H := hP
  have hD : va_D A [(out, .inl (KL, 1, .inr (.inl og_2))), (ms, .inl (K, 889, .inl (upd (fun _ => 0) 93 4))), (mo, .inr (8, [.ref ms, .int 0, .ref mb, .int 0, .int 1, .ref mlk, .int 0, .ref mfd, .int 0, .int 0, .int 0, .int 0]))] := hD
  have hw_7 : r_6 = 1 := hw_7
  have hw_7 := hw_7.symm
  subst hw_7
  refine k_nrm (y := 1) rfl ?_
  refine lv_iload hx hb dL_law_952 (lv_at hl 1 rfl) ?_
  refine lv_icmp_eq (tgt := 959) hx hb dL_law_954 (by decide) (fun _ => ?_) (fun c9 => absurd (by decide) c9)
  refine lv_iload hx hb dL_law_959 (lv_at hl 1 rfl) ?_
  refine lv_if_ne (tgt := 976) hx hb dL_law_961 (by decide) (fun _ => ?_) (fun c9 => absurd c9 (by decide))
  refine lv_goto (tgt := 1479) hx hb dL_law_976 (by decide) ?_
  exact law_end C0 (by rw [hAe]; exact hS) (lv_sub hl [2, 6] rfl) (Nat.le_of_ble_eq_true rfl) (Nat.le_of_ble_eq_true rfl)
set_option maxHeartbeats 4000000 in
set_option maxRecDepth 100000 in
theorem law_c18 {p : Program} {l : Launch} {e : Env} {s : State} {m : MethodId} {below : List Frame} {meth : Method} {c : Code} {b : Nat} {xs : Nat → Int32} (hst : l.stackTraces = false) (D : va_G) (C0 : lw_At p s m meth c b 4 xs) (hG : k_G (fun q : Nat => s.heap.size ≤ q) s s.heap) {H : Heap} {locs : List Loc} {ls : Array Slot} (h : law_I D s b H locs ls) : W p l e room_1 s m #[Value.ref b] below meth c H locs 124 2208 (lw_Z below #[Value.ref b] s) (F0 m 979 ls []) := by
  have C1 := C0
  obtain ⟨hx, hb, hr, hml, hown, hts, hX, hbl, hlocks, hgv⟩ := C1
  have hown : s.vm.findClass RL = some m.cls := hown
  have ht : ∀ v9 ∈ wsA, v9.before #[Value.ref b] s = true := fun v9 h9 => hts v9 (wsA_tbl h9)
  have S0 : k_C p s m #[Value.ref b] c cL_law 7 RL := ⟨hx, hb, hml, hown, ht⟩
  have hbA : ¬ (fun q : Nat => s.heap.size ≤ q) b := Nat.not_le.mpr hbl
  have hA : ∀ q : Nat, s.heap.size ≤ q → (fun q : Nat => s.heap.size ≤ q) q := fun _ h9 => h9
  obtain ⟨y1, hy1⟩ : ∃ z9 : Int32, z9 = xs 1 := ⟨_, rfl⟩
  obtain ⟨y2, hy2⟩ : ∃ z9 : Int32, z9 = xs 2 := ⟨_, rfl⟩
  obtain ⟨y3, hy3⟩ : ∃ z9 : Int32, z9 = xs 3 := ⟨_, rfl⟩
  have hs0 : (upd (fun _ => 0) 93 4) 0 = 0 := rfl
  have hs51 : (upd (fun _ => 0) 93 4) 51 = 0 := rfl
  have hs93 : (upd (fun _ => 0) 93 4) 93 = 4 := rfl
  have hs94 : (upd (fun _ => 0) 93 4) 94 = 0 := rfl
  have hs125 : (upd (fun _ => 0) 93 4) 125 = 0 := rfl
  have hs126 : (upd (fun _ => 0) 93 4) 126 = 0 := rfl
  obtain ⟨w, st, la, ld, ldA, lz, lzA, me, meA, li, ln, lnA, ll, llA, lc, lcA, hi, ri, zst, zla, zld, zldA, zlz, zlzA, zme, zmeA, zli, zln, zlnA, zll, zllA, zlc, zlcA, re, rd, rdA, rl, rlA, fo, foA, bu, buA, pa, mo, ms, mb, mlk, mfd, out, rf, K, KS, KC, KL, hrf, hK, hP, hD, hS, hl⟩ := h
  have hl : lv_has ls 7 [(4, .int 0), (3, .ref out), (2, .ref mo), (1, .ref w), (0, .ref b)] := hl
  generalize hAe : (fun q : Nat => s.heap.size ≤ q) = A at hG hD hS hA hbA
  have hP : va_P D vwCl [(w, .inr (7, [.ref st, .ref hi, .ref re, .ref fo, .ref bu, .ref pa])), (st, .inr (6, [.ref la, .ref me, .ref li, .int 4, .int 0, .int 0])), (li, .inr (0, [.ref ln, .ref ll, .ref lc])), (ln, .inr (4, [.ref lnA, .int 0])), (mo, .inr (8, [.ref ms, .int 0, .ref mb, .int 0, .int 0, .ref mlk, .int 0, .ref mfd, .int 0, .int 0, .int 0, .int 0])), (ms, .inl (K, 889, .inl (upd (fun _ => 0) 93 4))), (out, .inl (KL, 1, .inr (.inl (fun _ => 0))))] H := hP.sub [0, 1, 9, 10, 43, 44, 48] rfl
  have hD : va_D A [(w, .inr (7, [.ref st, .ref hi, .ref re, .ref fo, .ref bu, .ref pa])), (st, .inr (6, [.ref la, .ref me, .ref li, .int 4, .int 0, .int 0])), (li, .inr (0, [.ref ln, .ref ll, .ref lc])), (ln, .inr (4, [.ref lnA, .int 0])), (mo, .inr (8, [.ref ms, .int 0, .ref mb, .int 0, .int 0, .ref mlk, .int 0, .ref mfd, .int 0, .int 0, .int 0, .int 0])), (ms, .inl (K, 889, .inl (upd (fun _ => 0) 93 4))), (out, .inl (KL, 1, .inr (.inl (fun _ => 0))))] := hD.sub [0, 1, 9, 10, 43, 44, 48] (by decide) rfl
  refine lv_aload_n hx hb dL_law_979 rfl (lv_at hl 3 rfl) ?_
  refine lv_aload_n hx hb dL_law_980 rfl (lv_at hl 4 rfl) ?_
  refine lv_iload hx hb dL_law_981 (lv_at hl 0 rfl) ?_
  refine lv_iconst (v := 1) hx hb dL_law_983 (by decide) ?_
  refine lv_iadd hx hb dL_law_984 ?_
  refine k_nrm (y := 1) (by decide) ?_
  refine va_sld hx hb hX hbl hbA hS (by unfold vp_in; decide) dL_law_985 ?_
  refine k_nrm (y := y1) (by rw [hy1]; rfl) ?_
  refine lv_aload_n hx hb dL_law_986 rfl (lv_at hl 1 rfl) ?_
  have ct := k_cut_of (wc := [(w, .inr (7, [.ref st, .ref hi, .ref re, .ref fo, .ref bu, .ref pa])), (st, .inr (6, [.ref la, .ref me, .ref li, .int 4, .int 0, .int 0])), (li, .inr (0, [.ref ln, .ref ll, .ref lc])), (ln, .inr (4, [.ref lnA, .int 0])), (out, .inl (KL, 1, .inr (.inl (fun _ => 0))))]) (wr := [(mo, .inr (8, [.ref ms, .int 0, .ref mb, .int 0, .int 0, .ref mlk, .int 0, .ref mfd, .int 0, .int 0, .int 0, .int 0])), (ms, .inl (K, 889, .inl (upd (fun _ => 0) 93 4)))]) (tc := [(KL, .long)]) hG hS hA hK hP hD [0, 1, 2, 3, 6] [4, 5] [3] rfl rfl (by decide) (by decide) (by decide) rfl
  refine k_endi (As := [.ref w, .int y1, .ref out]) ct (k_runSW (As := [.ref w, .int y1, .ref out]) (rest := []) S0 Ls_L_147 ct (c_L_codeLength l hst D w st hi re fo bu pa la me li 4 0 0 ln ll lc lnA y1 out KL (fun _ => 0) H.size) hl.1 rfl (Nat.le_of_ble_eq_true rfl) rfl dL_law_987 ⟨⟨Nat.le_of_ble_eq_true rfl, Nat.le_of_ble_eq_true rfl⟩, Nat.le_of_ble_eq_true rfl, Nat.le_of_ble_eq_true rfl⟩) rfl rfl (fun r_1 og_2 H locs hw_3 hP hD hK hS => ?_)
  have hK : va_K D vwCl [(K, .int), (KS, .object "BarcodeWand$State"), (KC, .char), (KL, .long)] s := hK
  have hP : va_P D vwCl [(mo, .inr (8, [.ref ms, .int 0, .ref mb, .int 0, .int 0, .ref mlk, .int 0, .ref mfd, .int 0, .int 0, .int 0, .int 0])), (ms, .inl (K, 889, .inl (upd (fun _ => 0) 93 4))), (out, .inl (KL, 1, .inr (.inl og_2)))] H := hP
  have hD : va_D A [(mo, .inr (8, [.ref ms, .int 0, .ref mb, .int 0, .int 0, .ref mlk, .int 0, .ref mfd, .int 0, .int 0, .int 0, .int 0])), (ms, .inl (K, 889, .inl (upd (fun _ => 0) 93 4))), (out, .inl (KL, 1, .inr (.inl og_2)))] := hD
  have hw_3 : r_1 = 1 := hw_3
  have hw_3 := hw_3.symm
  subst hw_3
  refine k_nrm (y := 1) rfl ?_
  refine lv_istore (lv' := [(5, .int 1), (4, .int 0), (3, .ref out), (2, .ref mo), (1, .ref w), (0, .ref b)]) hx hb dL_law_990 hl (by decide) rfl (fun ls hl => ?_)
  refine lv_aload_n hx hb dL_law_992 rfl (lv_at hl 3 rfl) ?_
  refine lv_aload_n hx hb dL_law_993 rfl (lv_at hl 5 rfl) ?_
  refine lv_iload hx hb dL_law_994 (lv_at hl 1 rfl) ?_
  refine lv_iconst (v := 1) hx hb dL_law_996 (by decide) ?_
  refine lv_iadd hx hb dL_law_997 ?_
  refine k_nrm (y := 1) (by decide) ?_
  refine va_sld hx hb hX hbl hbA hS (by unfold vp_in; decide) dL_law_998 ?_
  refine k_nrm (y := y1) (by rw [hy1]; rfl) ?_
  have ct := k_cut_of (wc := [(mo, .inr (8, [.ref ms, .int 0, .ref mb, .int 0, .int 0, .ref mlk, .int 0, .ref mfd, .int 0, .int 0, .int 0, .int 0])), (ms, .inl (K, 889, .inl (upd (fun _ => 0) 93 4)))]) (wr := [(out, .inl (KL, 1, .inr (.inl og_2)))]) (tc := [(K, .int)]) hG hS hA hK hP hD [0, 1] [2] [0] rfl rfl (by decide) (by decide) (by decide) rfl
  refine k_endi (As := [.ref mo, .int y1]) ct (k_runV (As := [.int y1]) (rest := []) S0 Lv_L_149 rfl (ci := 8) (q0 := 0) rfl rfl ct (c_M_codeLength l D mo ms 0 mb 0 mlk 0 mfd 0 0 0 0 K (upd (fun _ => 0) 93 4) y1 (by first | assumption | exact (cpf_lo (by decide)).trans (by assumption)) (by first | assumption | exact (cpf_lo (by decide)).trans (by assumption)) (by first | assumption | exact (cpf_lo (by decide)).trans (by assumption)) (by first | assumption | exact (cpf_lo (by decide)).trans (by assumption)) (by first | assumption | exact (cpf_lo (by decide)).trans (by assumption)) (by first | assumption | exact (cpf_lo (by decide)).trans (by assumption)) H.size) hl.1 rfl (Nat.le_of_ble_eq_true rfl) rfl dL_law_999 ⟨⟨Nat.le_of_ble_eq_true rfl, Nat.le_of_ble_eq_true rfl⟩, Nat.le_of_ble_eq_true rfl, Nat.le_of_ble_eq_true rfl⟩) rfl rfl (fun r_4 _ H locs hw_5 hP hD hK hS => ?_)
  have hK : va_K D vwCl [(K, .int), (KS, .object "BarcodeWand$State"), (KC, .char), (KL, .long)] s := hK
  have hP : va_P D vwCl [(out, .inl (KL, 1, .inr (.inl og_2))), (mo, .inr (8, [.ref ms, .int 0, .ref mb, .int 0, .int 1, .ref mlk, .int 0, .ref mfd, .int 0, .int 0, .int 0, .int 0])), (ms, .inl (K, 889, .inl (upd (fun _ => 0) 93 4)))] H := hP
  have hD : va_D A [(out, .inl (KL, 1, .inr (.inl og_2))), (mo, .inr (8, [.ref ms, .int 0, .ref mb, .int 0, .int 1, .ref mlk, .int 0, .ref mfd, .int 0, .int 0, .int 0, .int 0])), (ms, .inl (K, 889, .inl (upd (fun _ => 0) 93 4)))] := hD
  have hw_5 : r_4 = 0 := hw_5
  have hw_5 := hw_5.symm
  subst hw_5
  refine k_nrm (y := 0) rfl ?_
  refine lv_istore (lv' := [(6, .int 0), (5, .int 1), (4, .int 0), (3, .ref out), (2, .ref mo), (1, .ref w), (0, .ref b)]) hx hb dL_law_1002 hl (by decide) rfl (fun ls hl => ?_)
  refine lv_aload_n hx hb dL_law_1004 rfl (lv_at hl 4 rfl) ?_
  have ct := k_cut_of (wc := [(mo, .inr (8, [.ref ms, .int 0, .ref mb, .int 0, .int 1, .ref mlk, .int 0, .ref mfd, .int 0, .int 0, .int 0, .int 0]))]) (wr := [(out, .inl (KL, 1, .inr (.inl og_2))), (ms, .inl (K, 889, .inl (upd (fun _ => 0) 93 4)))]) (tc := []) hG hS hA hK hP hD [1] [0, 2] [] rfl rfl (by decide) (by decide) (by decide) rfl
  refine k_endi (As := [.ref mo]) ct (k_runV (As := []) (rest := []) S0 Lv_L_83 rfl (ci := 8) (q0 := 0) rfl rfl ct (c_M_thrown2 l D mo ms 0 mb 0 1 mlk 0 mfd 0 0 0 0 H.size) hl.1 rfl (Nat.le_of_ble_eq_true rfl) rfl dL_law_1005 ⟨⟨Nat.le_of_ble_eq_true rfl, Nat.le_of_ble_eq_true rfl⟩, Nat.le_of_ble_eq_true rfl, Nat.le_of_ble_eq_true rfl⟩) rfl rfl (fun r_6 _ H locs hw_7 hP hD hK hS => ?_)
  have hK : va_K D vwCl [(K, .int), (KS, .object "BarcodeWand$State"), (KC, .char), (KL, .long)] s := hK
  have hP : va_P D vwCl [(out, .inl (KL, 1, .inr (.inl og_2))), (ms, .inl (K, 889, .inl (upd (fun _ => 0) 93 4))), (mo, .inr (8, [.ref ms, .int 0, .ref mb, .int 0, .int 1, .ref mlk, .int 0, .ref mfd, .int 0, .int 0, .int 0, .int 0]))] H := hP
  have hD : va_D A [(out, .inl (KL, 1, .inr (.inl og_2))), (ms, .inl (K, 889, .inl (upd (fun _ => 0) 93 4))), (mo, .inr (8, [.ref ms, .int 0, .ref mb, .int 0, .int 1, .ref mlk, .int 0, .ref mfd, .int 0, .int 0, .int 0, .int 0]))] := hD
  have hw_7 : r_6 = 1 := hw_7
  have hw_7 := hw_7.symm
  subst hw_7
  refine k_nrm (y := 1) rfl ?_
  refine lv_iload hx hb dL_law_1008 (lv_at hl 1 rfl) ?_
  refine lv_icmp_eq (tgt := 1015) hx hb dL_law_1010 (by decide) (fun _ => ?_) (fun c9 => absurd (by decide) c9)
  refine lv_iload hx hb dL_law_1015 (lv_at hl 1 rfl) ?_
  refine lv_if_ne (tgt := 1032) hx hb dL_law_1017 (by decide) (fun _ => ?_) (fun c9 => absurd c9 (by decide))
  refine lv_goto (tgt := 1479) hx hb dL_law_1032 (by decide) ?_
  exact law_end C0 (by rw [hAe]; exact hS) (lv_sub hl [2, 6] rfl) (Nat.le_of_ble_eq_true rfl) (Nat.le_of_ble_eq_true rfl)
set_option maxHeartbeats 4000000 in
set_option maxRecDepth 100000 in
theorem law_c19 {p : Program} {l : Launch} {e : Env} {s : State} {m : MethodId} {below : List Frame} {meth : Method} {c : Code} {b : Nat} {xs : Nat → Int32} (hst : l.stackTraces = false) (D : va_G) (C0 : lw_At p s m meth c b 4 xs) (hG : k_G (fun q : Nat => s.heap.size ≤ q) s s.heap) {H : Heap} {locs : List Loc} {ls : Array Slot} (h : law_I D s b H locs ls) : W p l e room_1 s m #[Value.ref b] below meth c H locs 124 2208 (lw_Z below #[Value.ref b] s) (F0 m 1035 ls []) := by
  have C1 := C0
  obtain ⟨hx, hb, hr, hml, hown, hts, hX, hbl, hlocks, hgv⟩ := C1
  have hown : s.vm.findClass RL = some m.cls := hown
  have ht : ∀ v9 ∈ wsA, v9.before #[Value.ref b] s = true := fun v9 h9 => hts v9 (wsA_tbl h9)
  have S0 : k_C p s m #[Value.ref b] c cL_law 7 RL := ⟨hx, hb, hml, hown, ht⟩
  have hbA : ¬ (fun q : Nat => s.heap.size ≤ q) b := Nat.not_le.mpr hbl
  have hA : ∀ q : Nat, s.heap.size ≤ q → (fun q : Nat => s.heap.size ≤ q) q := fun _ h9 => h9
  obtain ⟨y1, hy1⟩ : ∃ z9 : Int32, z9 = xs 1 := ⟨_, rfl⟩
  obtain ⟨y2, hy2⟩ : ∃ z9 : Int32, z9 = xs 2 := ⟨_, rfl⟩
  obtain ⟨y3, hy3⟩ : ∃ z9 : Int32, z9 = xs 3 := ⟨_, rfl⟩
  have hs0 : (upd (fun _ => 0) 93 4) 0 = 0 := rfl
  have hs51 : (upd (fun _ => 0) 93 4) 51 = 0 := rfl
  have hs93 : (upd (fun _ => 0) 93 4) 93 = 4 := rfl
  have hs94 : (upd (fun _ => 0) 93 4) 94 = 0 := rfl
  have hs125 : (upd (fun _ => 0) 93 4) 125 = 0 := rfl
  have hs126 : (upd (fun _ => 0) 93 4) 126 = 0 := rfl
  obtain ⟨w, st, la, ld, ldA, lz, lzA, me, meA, li, ln, lnA, ll, llA, lc, lcA, hi, ri, zst, zla, zld, zldA, zlz, zlzA, zme, zmeA, zli, zln, zlnA, zll, zllA, zlc, zlcA, re, rd, rdA, rl, rlA, fo, foA, bu, buA, pa, mo, ms, mb, mlk, mfd, out, rf, K, KS, KC, KL, hrf, hK, hP, hD, hS, hl⟩ := h
  have hl : lv_has ls 7 [(4, .int 0), (3, .ref out), (2, .ref mo), (1, .ref w), (0, .ref b)] := hl
  generalize hAe : (fun q : Nat => s.heap.size ≤ q) = A at hG hD hS hA hbA
  have hP : va_P D vwCl [(w, .inr (7, [.ref st, .ref hi, .ref re, .ref fo, .ref bu, .ref pa])), (st, .inr (6, [.ref la, .ref me, .ref li, .int 4, .int 0, .int 0])), (li, .inr (0, [.ref ln, .ref ll, .ref lc])), (ln, .inr (4, [.ref lnA, .int 0])), (mo, .inr (8, [.ref ms, .int 0, .ref mb, .int 0, .int 0, .ref mlk, .int 0, .ref mfd, .int 0, .int 0, .int 0, .int 0])), (ms, .inl (K, 889, .inl (upd (fun _ => 0) 93 4))), (out, .inl (KL, 1, .inr (.inl (fun _ => 0))))] H := hP.sub [0, 1, 9, 10, 43, 44, 48] rfl
  have hD : va_D A [(w, .inr (7, [.ref st, .ref hi, .ref re, .ref fo, .ref bu, .ref pa])), (st, .inr (6, [.ref la, .ref me, .ref li, .int 4, .int 0, .int 0])), (li, .inr (0, [.ref ln, .ref ll, .ref lc])), (ln, .inr (4, [.ref lnA, .int 0])), (mo, .inr (8, [.ref ms, .int 0, .ref mb, .int 0, .int 0, .ref mlk, .int 0, .ref mfd, .int 0, .int 0, .int 0, .int 0])), (ms, .inl (K, 889, .inl (upd (fun _ => 0) 93 4))), (out, .inl (KL, 1, .inr (.inl (fun _ => 0))))] := hD.sub [0, 1, 9, 10, 43, 44, 48] (by decide) rfl
  refine lv_aload_n hx hb dL_law_1035 rfl (lv_at hl 3 rfl) ?_
  refine lv_aload_n hx hb dL_law_1036 rfl (lv_at hl 4 rfl) ?_
  refine lv_iload hx hb dL_law_1037 (lv_at hl 0 rfl) ?_
  refine lv_iconst (v := 1) hx hb dL_law_1039 (by decide) ?_
  refine lv_iadd hx hb dL_law_1040 ?_
  refine k_nrm (y := 1) (by decide) ?_
  refine va_sld hx hb hX hbl hbA hS (by unfold vp_in; decide) dL_law_1041 ?_
  refine k_nrm (y := y1) (by rw [hy1]; rfl) ?_
  refine lv_aload_n hx hb dL_law_1042 rfl (lv_at hl 1 rfl) ?_
  have ct := k_cut_of (wc := [(w, .inr (7, [.ref st, .ref hi, .ref re, .ref fo, .ref bu, .ref pa])), (st, .inr (6, [.ref la, .ref me, .ref li, .int 4, .int 0, .int 0])), (li, .inr (0, [.ref ln, .ref ll, .ref lc])), (ln, .inr (4, [.ref lnA, .int 0])), (out, .inl (KL, 1, .inr (.inl (fun _ => 0))))]) (wr := [(mo, .inr (8, [.ref ms, .int 0, .ref mb, .int 0, .int 0, .ref mlk, .int 0, .ref mfd, .int 0, .int 0, .int 0, .int 0])), (ms, .inl (K, 889, .inl (upd (fun _ => 0) 93 4)))]) (tc := [(KL, .long)]) hG hS hA hK hP hD [0, 1, 2, 3, 6] [4, 5] [3] rfl rfl (by decide) (by decide) (by decide) rfl
  refine k_endi (As := [.ref w, .int y1, .ref out]) ct (k_runSW (As := [.ref w, .int y1, .ref out]) (rest := []) S0 Ls_L_150 ct (c_L_count l hst D w st hi re fo bu pa la me li 4 0 0 ln ll lc lnA y1 out KL (fun _ => 0) H.size) hl.1 rfl (Nat.le_of_ble_eq_true rfl) rfl dL_law_1043 ⟨⟨Nat.le_of_ble_eq_true rfl, Nat.le_of_ble_eq_true rfl⟩, Nat.le_of_ble_eq_true rfl, Nat.le_of_ble_eq_true rfl⟩) rfl rfl (fun r_1 og_2 H locs hw_3 hP hD hK hS => ?_)
  have hK : va_K D vwCl [(K, .int), (KS, .object "BarcodeWand$State"), (KC, .char), (KL, .long)] s := hK
  have hP : va_P D vwCl [(mo, .inr (8, [.ref ms, .int 0, .ref mb, .int 0, .int 0, .ref mlk, .int 0, .ref mfd, .int 0, .int 0, .int 0, .int 0])), (ms, .inl (K, 889, .inl (upd (fun _ => 0) 93 4))), (out, .inl (KL, 1, .inr (.inl og_2)))] H := hP
  have hD : va_D A [(mo, .inr (8, [.ref ms, .int 0, .ref mb, .int 0, .int 0, .ref mlk, .int 0, .ref mfd, .int 0, .int 0, .int 0, .int 0])), (ms, .inl (K, 889, .inl (upd (fun _ => 0) 93 4))), (out, .inl (KL, 1, .inr (.inl og_2)))] := hD
  have hw_3 : r_1 = 1 := hw_3
  have hw_3 := hw_3.symm
  subst hw_3
  refine k_nrm (y := 1) rfl ?_
  refine lv_istore (lv' := [(5, .int 1), (4, .int 0), (3, .ref out), (2, .ref mo), (1, .ref w), (0, .ref b)]) hx hb dL_law_1046 hl (by decide) rfl (fun ls hl => ?_)
  refine lv_aload_n hx hb dL_law_1048 rfl (lv_at hl 3 rfl) ?_
  refine lv_aload_n hx hb dL_law_1049 rfl (lv_at hl 5 rfl) ?_
  refine lv_iload hx hb dL_law_1050 (lv_at hl 1 rfl) ?_
  refine lv_iconst (v := 1) hx hb dL_law_1052 (by decide) ?_
  refine lv_iadd hx hb dL_law_1053 ?_
  refine k_nrm (y := 1) (by decide) ?_
  refine va_sld hx hb hX hbl hbA hS (by unfold vp_in; decide) dL_law_1054 ?_
  refine k_nrm (y := y1) (by rw [hy1]; rfl) ?_
  have ct := k_cut_of (wc := [(mo, .inr (8, [.ref ms, .int 0, .ref mb, .int 0, .int 0, .ref mlk, .int 0, .ref mfd, .int 0, .int 0, .int 0, .int 0])), (ms, .inl (K, 889, .inl (upd (fun _ => 0) 93 4)))]) (wr := [(out, .inl (KL, 1, .inr (.inl og_2)))]) (tc := [(K, .int)]) hG hS hA hK hP hD [0, 1] [2] [0] rfl rfl (by decide) (by decide) (by decide) rfl
  refine k_endi (As := [.ref mo, .int y1]) ct (k_runV (As := [.int y1]) (rest := []) S0 Lv_L_152 rfl (ci := 8) (q0 := 0) rfl rfl ct (c_M_count l D mo ms 0 mb 0 mlk 0 mfd 0 0 0 0 K (upd (fun _ => 0) 93 4) y1 (by first | assumption | exact (cpf_lo (by decide)).trans (by assumption)) (by first | assumption | exact (cpf_lo (by decide)).trans (by assumption)) (by first | assumption | exact (cpf_lo (by decide)).trans (by assumption)) (by first | assumption | exact (cpf_lo (by decide)).trans (by assumption)) (by first | assumption | exact (cpf_lo (by decide)).trans (by assumption)) (by first | assumption | exact (cpf_lo (by decide)).trans (by assumption)) H.size) hl.1 rfl (Nat.le_of_ble_eq_true rfl) rfl dL_law_1055 ⟨⟨Nat.le_of_ble_eq_true rfl, Nat.le_of_ble_eq_true rfl⟩, Nat.le_of_ble_eq_true rfl, Nat.le_of_ble_eq_true rfl⟩) rfl rfl (fun r_4 _ H locs hw_5 hP hD hK hS => ?_)
  have hK : va_K D vwCl [(K, .int), (KS, .object "BarcodeWand$State"), (KC, .char), (KL, .long)] s := hK
  have hP : va_P D vwCl [(out, .inl (KL, 1, .inr (.inl og_2))), (mo, .inr (8, [.ref ms, .int 0, .ref mb, .int 0, .int 1, .ref mlk, .int 0, .ref mfd, .int 0, .int 0, .int 0, .int 0])), (ms, .inl (K, 889, .inl (upd (fun _ => 0) 93 4)))] H := hP
  have hD : va_D A [(out, .inl (KL, 1, .inr (.inl og_2))), (mo, .inr (8, [.ref ms, .int 0, .ref mb, .int 0, .int 1, .ref mlk, .int 0, .ref mfd, .int 0, .int 0, .int 0, .int 0])), (ms, .inl (K, 889, .inl (upd (fun _ => 0) 93 4)))] := hD
  have hw_5 : r_4 = 0 := hw_5
  have hw_5 := hw_5.symm
  subst hw_5
  refine k_nrm (y := 0) rfl ?_
  refine lv_istore (lv' := [(6, .int 0), (5, .int 1), (4, .int 0), (3, .ref out), (2, .ref mo), (1, .ref w), (0, .ref b)]) hx hb dL_law_1058 hl (by decide) rfl (fun ls hl => ?_)
  refine lv_aload_n hx hb dL_law_1060 rfl (lv_at hl 4 rfl) ?_
  have ct := k_cut_of (wc := [(mo, .inr (8, [.ref ms, .int 0, .ref mb, .int 0, .int 1, .ref mlk, .int 0, .ref mfd, .int 0, .int 0, .int 0, .int 0]))]) (wr := [(out, .inl (KL, 1, .inr (.inl og_2))), (ms, .inl (K, 889, .inl (upd (fun _ => 0) 93 4)))]) (tc := []) hG hS hA hK hP hD [1] [0, 2] [] rfl rfl (by decide) (by decide) (by decide) rfl
  refine k_endi (As := [.ref mo]) ct (k_runV (As := []) (rest := []) S0 Lv_L_83 rfl (ci := 8) (q0 := 0) rfl rfl ct (c_M_thrown2 l D mo ms 0 mb 0 1 mlk 0 mfd 0 0 0 0 H.size) hl.1 rfl (Nat.le_of_ble_eq_true rfl) rfl dL_law_1061 ⟨⟨Nat.le_of_ble_eq_true rfl, Nat.le_of_ble_eq_true rfl⟩, Nat.le_of_ble_eq_true rfl, Nat.le_of_ble_eq_true rfl⟩) rfl rfl (fun r_6 _ H locs hw_7 hP hD hK hS => ?_)
  have hK : va_K D vwCl [(K, .int), (KS, .object "BarcodeWand$State"), (KC, .char), (KL, .long)] s := hK
  have hP : va_P D vwCl [(out, .inl (KL, 1, .inr (.inl og_2))), (ms, .inl (K, 889, .inl (upd (fun _ => 0) 93 4))), (mo, .inr (8, [.ref ms, .int 0, .ref mb, .int 0, .int 1, .ref mlk, .int 0, .ref mfd, .int 0, .int 0, .int 0, .int 0]))] H := hP
  have hD : va_D A [(out, .inl (KL, 1, .inr (.inl og_2))), (ms, .inl (K, 889, .inl (upd (fun _ => 0) 93 4))), (mo, .inr (8, [.ref ms, .int 0, .ref mb, .int 0, .int 1, .ref mlk, .int 0, .ref mfd, .int 0, .int 0, .int 0, .int 0]))] := hD
  have hw_7 : r_6 = 1 := hw_7
  have hw_7 := hw_7.symm
  subst hw_7
  refine k_nrm (y := 1) rfl ?_
  refine lv_iload hx hb dL_law_1064 (lv_at hl 1 rfl) ?_
  refine lv_icmp_eq (tgt := 1071) hx hb dL_law_1066 (by decide) (fun _ => ?_) (fun c9 => absurd (by decide) c9)
  refine lv_iload hx hb dL_law_1071 (lv_at hl 1 rfl) ?_
  refine lv_if_ne (tgt := 1088) hx hb dL_law_1073 (by decide) (fun _ => ?_) (fun c9 => absurd c9 (by decide))
  refine lv_goto (tgt := 1479) hx hb dL_law_1088 (by decide) ?_
  exact law_end C0 (by rw [hAe]; exact hS) (lv_sub hl [2, 6] rfl) (Nat.le_of_ble_eq_true rfl) (Nat.le_of_ble_eq_true rfl)
set_option maxHeartbeats 4000000 in
set_option maxRecDepth 100000 in
theorem law_c20 {p : Program} {l : Launch} {e : Env} {s : State} {m : MethodId} {below : List Frame} {meth : Method} {c : Code} {b : Nat} {xs : Nat → Int32} (hst : l.stackTraces = false) (D : va_G) (C0 : lw_At p s m meth c b 4 xs) (hG : k_G (fun q : Nat => s.heap.size ≤ q) s s.heap) {H : Heap} {locs : List Loc} {ls : Array Slot} (h : law_I D s b H locs ls) : W p l e room_1 s m #[Value.ref b] below meth c H locs 124 2208 (lw_Z below #[Value.ref b] s) (F0 m 1091 ls []) := by
  have C1 := C0
  obtain ⟨hx, hb, hr, hml, hown, hts, hX, hbl, hlocks, hgv⟩ := C1
  have hown : s.vm.findClass RL = some m.cls := hown
  have ht : ∀ v9 ∈ wsA, v9.before #[Value.ref b] s = true := fun v9 h9 => hts v9 (wsA_tbl h9)
  have S0 : k_C p s m #[Value.ref b] c cL_law 7 RL := ⟨hx, hb, hml, hown, ht⟩
  have hbA : ¬ (fun q : Nat => s.heap.size ≤ q) b := Nat.not_le.mpr hbl
  have hA : ∀ q : Nat, s.heap.size ≤ q → (fun q : Nat => s.heap.size ≤ q) q := fun _ h9 => h9
  obtain ⟨y1, hy1⟩ : ∃ z9 : Int32, z9 = xs 1 := ⟨_, rfl⟩
  obtain ⟨y2, hy2⟩ : ∃ z9 : Int32, z9 = xs 2 := ⟨_, rfl⟩
  obtain ⟨y3, hy3⟩ : ∃ z9 : Int32, z9 = xs 3 := ⟨_, rfl⟩
  have hs0 : (upd (fun _ => 0) 93 4) 0 = 0 := rfl
  have hs51 : (upd (fun _ => 0) 93 4) 51 = 0 := rfl
  have hs93 : (upd (fun _ => 0) 93 4) 93 = 4 := rfl
  have hs94 : (upd (fun _ => 0) 93 4) 94 = 0 := rfl
  have hs125 : (upd (fun _ => 0) 93 4) 125 = 0 := rfl
  have hs126 : (upd (fun _ => 0) 93 4) 126 = 0 := rfl
  obtain ⟨w, st, la, ld, ldA, lz, lzA, me, meA, li, ln, lnA, ll, llA, lc, lcA, hi, ri, zst, zla, zld, zldA, zlz, zlzA, zme, zmeA, zli, zln, zlnA, zll, zllA, zlc, zlcA, re, rd, rdA, rl, rlA, fo, foA, bu, buA, pa, mo, ms, mb, mlk, mfd, out, rf, K, KS, KC, KL, hrf, hK, hP, hD, hS, hl⟩ := h
  have hl : lv_has ls 7 [(4, .int 0), (3, .ref out), (2, .ref mo), (1, .ref w), (0, .ref b)] := hl
  generalize hAe : (fun q : Nat => s.heap.size ≤ q) = A at hG hD hS hA hbA
  have hP : va_P D vwCl [(w, .inr (7, [.ref st, .ref hi, .ref re, .ref fo, .ref bu, .ref pa])), (st, .inr (6, [.ref la, .ref me, .ref li, .int 4, .int 0, .int 0])), (mo, .inr (8, [.ref ms, .int 0, .ref mb, .int 0, .int 0, .ref mlk, .int 0, .ref mfd, .int 0, .int 0, .int 0, .int 0])), (ms, .inl (K, 889, .inl (upd (fun _ => 0) 93 4)))] H := hP.sub [0, 1, 43, 44] rfl
  have hD : va_D A [(w, .inr (7, [.ref st, .ref hi, .ref re, .ref fo, .ref bu, .ref pa])), (st, .inr (6, [.ref la, .ref me, .ref li, .int 4, .int 0, .int 0])), (mo, .inr (8, [.ref ms, .int 0, .ref mb, .int 0, .int 0, .ref mlk, .int 0, .ref mfd, .int 0, .int 0, .int 0, .int 0])), (ms, .inl (K, 889, .inl (upd (fun _ => 0) 93 4)))] := hD.sub [0, 1, 43, 44] (by decide) rfl
  refine lv_aload_n hx hb dL_law_1091 rfl (lv_at hl 3 rfl) ?_
  have ct := k_cut_of (wc := [(w, .inr (7, [.ref st, .ref hi, .ref re, .ref fo, .ref bu, .ref pa])), (st, .inr (6, [.ref la, .ref me, .ref li, .int 4, .int 0, .int 0]))]) (wr := [(mo, .inr (8, [.ref ms, .int 0, .ref mb, .int 0, .int 0, .ref mlk, .int 0, .ref mfd, .int 0, .int 0, .int 0, .int 0])), (ms, .inl (K, 889, .inl (upd (fun _ => 0) 93 4)))]) (tc := []) hG hS hA hK hP hD [0, 1] [2, 3] [] rfl rfl (by decide) (by decide) (by decide) rfl
  refine k_endi (As := [.ref w]) ct (k_runV (As := []) (rest := []) S0 Lv_L_153 rfl (ci := 7) (q0 := 0) rfl rfl ct (c_W_successes l D w st hi re fo bu pa la me li 4 0 0 H.size) hl.1 rfl (Nat.le_of_ble_eq_true rfl) rfl dL_law_1092 ⟨⟨Nat.le_of_ble_eq_true rfl, Nat.le_of_ble_eq_true rfl⟩, Nat.le_of_ble_eq_true rfl, Nat.le_of_ble_eq_true rfl⟩) rfl rfl (fun r_1 _ H locs hw_2 hP hD hK hS => ?_)
  have hK : va_K D vwCl [(K, .int), (KS, .object "BarcodeWand$State"), (KC, .char), (KL, .long)] s := hK
  have hP : va_P D vwCl [(mo, .inr (8, [.ref ms, .int 0, .ref mb, .int 0, .int 0, .ref mlk, .int 0, .ref mfd, .int 0, .int 0, .int 0, .int 0])), (ms, .inl (K, 889, .inl (upd (fun _ => 0) 93 4))), (w, .inr (7, [.ref st, .ref hi, .ref re, .ref fo, .ref bu, .ref pa])), (st, .inr (6, [.ref la, .ref me, .ref li, .int 4, .int 0, .int 0]))] H := hP
  have hD : va_D A [(mo, .inr (8, [.ref ms, .int 0, .ref mb, .int 0, .int 0, .ref mlk, .int 0, .ref mfd, .int 0, .int 0, .int 0, .int 0])), (ms, .inl (K, 889, .inl (upd (fun _ => 0) 93 4))), (w, .inr (7, [.ref st, .ref hi, .ref re, .ref fo, .ref bu, .ref pa])), (st, .inr (6, [.ref la, .ref me, .ref li, .int 4, .int 0, .int 0]))] := hD
  have hw_2 : r_1 = 0 := hw_2
  have hw_2 := hw_2.symm
  subst hw_2
  refine k_nrm (y := 0) rfl ?_
  refine lv_aload_n hx hb dL_law_1095 rfl (lv_at hl 2 rfl) ?_
  have ct := k_cut_of (wc := [(mo, .inr (8, [.ref ms, .int 0, .ref mb, .int 0, .int 0, .ref mlk, .int 0, .ref mfd, .int 0, .int 0, .int 0, .int 0])), (ms, .inl (K, 889, .inl (upd (fun _ => 0) 93 4)))]) (wr := [(w, .inr (7, [.ref st, .ref hi, .ref re, .ref fo, .ref bu, .ref pa])), (st, .inr (6, [.ref la, .ref me, .ref li, .int 4, .int 0, .int 0]))]) (tc := [(K, .int)]) hG hS hA hK hP hD [0, 1] [2, 3] [0] rfl rfl (by decide) (by decide) (by decide) rfl
  refine k_endi (As := [.ref mo]) ct (k_runV (As := []) (rest := [.int 0]) S0 Lv_L_156 rfl (ci := 8) (q0 := 0) rfl rfl ct (c_M_successes l D mo ms 0 mb 0 mlk 0 mfd 0 0 0 0 K (upd (fun _ => 0) 93 4) (by first | assumption | exact (cpf_lo (by decide)).trans (by assumption)) (by first | assumption | exact (cpf_lo (by decide)).trans (by assumption)) (by first | assumption | exact (cpf_lo (by decide)).trans (by assumption)) (by first | assumption | exact (cpf_lo (by decide)).trans (by assumption)) (by first | assumption | exact (cpf_lo (by decide)).trans (by assumption)) (by first | assumption | exact (cpf_lo (by decide)).trans (by assumption)) H.size) hl.1 rfl (Nat.le_of_ble_eq_true rfl) rfl dL_law_1096 ⟨⟨Nat.le_of_ble_eq_true rfl, Nat.le_of_ble_eq_true rfl⟩, Nat.le_of_ble_eq_true rfl, Nat.le_of_ble_eq_true rfl⟩) rfl rfl (fun r_3 _ H locs hw_4 hP hD hK hS => ?_)
  have hK : va_K D vwCl [(K, .int), (KS, .object "BarcodeWand$State"), (KC, .char), (KL, .long)] s := hK
  have hP : va_P D vwCl [(w, .inr (7, [.ref st, .ref hi, .ref re, .ref fo, .ref bu, .ref pa])), (st, .inr (6, [.ref la, .ref me, .ref li, .int 4, .int 0, .int 0])), (mo, .inr (8, [.ref ms, .int 0, .ref mb, .int 0, .int 0, .ref mlk, .int 0, .ref mfd, .int 0, .int 0, .int 0, .int 0])), (ms, .inl (K, 889, .inl (upd (fun _ => 0) 93 4)))] H := hP
  have hD : va_D A [(w, .inr (7, [.ref st, .ref hi, .ref re, .ref fo, .ref bu, .ref pa])), (st, .inr (6, [.ref la, .ref me, .ref li, .int 4, .int 0, .int 0])), (mo, .inr (8, [.ref ms, .int 0, .ref mb, .int 0, .int 0, .ref mlk, .int 0, .ref mfd, .int 0, .int 0, .int 0, .int 0])), (ms, .inl (K, 889, .inl (upd (fun _ => 0) 93 4)))] := hD
  have hw_4 : r_3 = 0 := hw_4
  have hw_4 := hw_4.symm
  subst hw_4
  refine k_nrm (y := 0) rfl ?_
  refine lv_icmp_eq (tgt := 1479) hx hb dL_law_1099 (by decide) (fun _ => ?_) (fun c9 => absurd (by decide) c9)
  exact law_end C0 (by rw [hAe]; exact hS) (lv_sub hl [0, 4] rfl) (Nat.le_of_ble_eq_true rfl) (Nat.le_of_ble_eq_true rfl)
set_option maxHeartbeats 4000000 in
set_option maxRecDepth 100000 in
theorem law_c21 {p : Program} {l : Launch} {e : Env} {s : State} {m : MethodId} {below : List Frame} {meth : Method} {c : Code} {b : Nat} {xs : Nat → Int32} (hst : l.stackTraces = false) (D : va_G) (C0 : lw_At p s m meth c b 4 xs) (hG : k_G (fun q : Nat => s.heap.size ≤ q) s s.heap) {H : Heap} {locs : List Loc} {ls : Array Slot} (h : law_I D s b H locs ls) : W p l e room_1 s m #[Value.ref b] below meth c H locs 124 2208 (lw_Z below #[Value.ref b] s) (F0 m 1104 ls []) := by
  have C1 := C0
  obtain ⟨hx, hb, hr, hml, hown, hts, hX, hbl, hlocks, hgv⟩ := C1
  have hown : s.vm.findClass RL = some m.cls := hown
  have ht : ∀ v9 ∈ wsA, v9.before #[Value.ref b] s = true := fun v9 h9 => hts v9 (wsA_tbl h9)
  have S0 : k_C p s m #[Value.ref b] c cL_law 7 RL := ⟨hx, hb, hml, hown, ht⟩
  have hbA : ¬ (fun q : Nat => s.heap.size ≤ q) b := Nat.not_le.mpr hbl
  have hA : ∀ q : Nat, s.heap.size ≤ q → (fun q : Nat => s.heap.size ≤ q) q := fun _ h9 => h9
  obtain ⟨y1, hy1⟩ : ∃ z9 : Int32, z9 = xs 1 := ⟨_, rfl⟩
  obtain ⟨y2, hy2⟩ : ∃ z9 : Int32, z9 = xs 2 := ⟨_, rfl⟩
  obtain ⟨y3, hy3⟩ : ∃ z9 : Int32, z9 = xs 3 := ⟨_, rfl⟩
  have hs0 : (upd (fun _ => 0) 93 4) 0 = 0 := rfl
  have hs51 : (upd (fun _ => 0) 93 4) 51 = 0 := rfl
  have hs93 : (upd (fun _ => 0) 93 4) 93 = 4 := rfl
  have hs94 : (upd (fun _ => 0) 93 4) 94 = 0 := rfl
  have hs125 : (upd (fun _ => 0) 93 4) 125 = 0 := rfl
  have hs126 : (upd (fun _ => 0) 93 4) 126 = 0 := rfl
  obtain ⟨w, st, la, ld, ldA, lz, lzA, me, meA, li, ln, lnA, ll, llA, lc, lcA, hi, ri, zst, zla, zld, zldA, zlz, zlzA, zme, zmeA, zli, zln, zlnA, zll, zllA, zlc, zlcA, re, rd, rdA, rl, rlA, fo, foA, bu, buA, pa, mo, ms, mb, mlk, mfd, out, rf, K, KS, KC, KL, hrf, hK, hP, hD, hS, hl⟩ := h
  have hl : lv_has ls 7 [(4, .int 0), (3, .ref out), (2, .ref mo), (1, .ref w), (0, .ref b)] := hl
  generalize hAe : (fun q : Nat => s.heap.size ≤ q) = A at hG hD hS hA hbA
  have hP : va_P D vwCl [(w, .inr (7, [.ref st, .ref hi, .ref re, .ref fo, .ref bu, .ref pa])), (st, .inr (6, [.ref la, .ref me, .ref li, .int 4, .int 0, .int 0])), (mo, .inr (8, [.ref ms, .int 0, .ref mb, .int 0, .int 0, .ref mlk, .int 0, .ref mfd, .int 0, .int 0, .int 0, .int 0])), (ms, .inl (K, 889, .inl (upd (fun _ => 0) 93 4)))] H := hP.sub [0, 1, 43, 44] rfl
  have hD : va_D A [(w, .inr (7, [.ref st, .ref hi, .ref re, .ref fo, .ref bu, .ref pa])), (st, .inr (6, [.ref la, .ref me, .ref li, .int 4, .int 0, .int 0])), (mo, .inr (8, [.ref ms, .int 0, .ref mb, .int 0, .int 0, .ref mlk, .int 0, .ref mfd, .int 0, .int 0, .int 0, .int 0])), (ms, .inl (K, 889, .inl (upd (fun _ => 0) 93 4)))] := hD.sub [0, 1, 43, 44] (by decide) rfl
  refine lv_aload_n hx hb dL_law_1104 rfl (lv_at hl 3 rfl) ?_
  have ct := k_cut_of (wc := [(w, .inr (7, [.ref st, .ref hi, .ref re, .ref fo, .ref bu, .ref pa])), (st, .inr (6, [.ref la, .ref me, .ref li, .int 4, .int 0, .int 0]))]) (wr := [(mo, .inr (8, [.ref ms, .int 0, .ref mb, .int 0, .int 0, .ref mlk, .int 0, .ref mfd, .int 0, .int 0, .int 0, .int 0])), (ms, .inl (K, 889, .inl (upd (fun _ => 0) 93 4)))]) (tc := []) hG hS hA hK hP hD [0, 1] [2, 3] [] rfl rfl (by decide) (by decide) (by decide) rfl
  refine k_endi (As := [.ref w]) ct (k_runV (As := []) (rest := []) S0 Lv_L_157 rfl (ci := 7) (q0 := 0) rfl rfl ct (c_W_failures l D w st hi re fo bu pa la me li 4 0 0 H.size) hl.1 rfl (Nat.le_of_ble_eq_true rfl) rfl dL_law_1105 ⟨⟨Nat.le_of_ble_eq_true rfl, Nat.le_of_ble_eq_true rfl⟩, Nat.le_of_ble_eq_true rfl, Nat.le_of_ble_eq_true rfl⟩) rfl rfl (fun r_1 _ H locs hw_2 hP hD hK hS => ?_)
  have hK : va_K D vwCl [(K, .int), (KS, .object "BarcodeWand$State"), (KC, .char), (KL, .long)] s := hK
  have hP : va_P D vwCl [(mo, .inr (8, [.ref ms, .int 0, .ref mb, .int 0, .int 0, .ref mlk, .int 0, .ref mfd, .int 0, .int 0, .int 0, .int 0])), (ms, .inl (K, 889, .inl (upd (fun _ => 0) 93 4))), (w, .inr (7, [.ref st, .ref hi, .ref re, .ref fo, .ref bu, .ref pa])), (st, .inr (6, [.ref la, .ref me, .ref li, .int 4, .int 0, .int 0]))] H := hP
  have hD : va_D A [(mo, .inr (8, [.ref ms, .int 0, .ref mb, .int 0, .int 0, .ref mlk, .int 0, .ref mfd, .int 0, .int 0, .int 0, .int 0])), (ms, .inl (K, 889, .inl (upd (fun _ => 0) 93 4))), (w, .inr (7, [.ref st, .ref hi, .ref re, .ref fo, .ref bu, .ref pa])), (st, .inr (6, [.ref la, .ref me, .ref li, .int 4, .int 0, .int 0]))] := hD
  have hw_2 : r_1 = 0 := hw_2
  have hw_2 := hw_2.symm
  subst hw_2
  refine k_nrm (y := 0) rfl ?_
  refine lv_aload_n hx hb dL_law_1108 rfl (lv_at hl 2 rfl) ?_
  have ct := k_cut_of (wc := [(mo, .inr (8, [.ref ms, .int 0, .ref mb, .int 0, .int 0, .ref mlk, .int 0, .ref mfd, .int 0, .int 0, .int 0, .int 0])), (ms, .inl (K, 889, .inl (upd (fun _ => 0) 93 4)))]) (wr := [(w, .inr (7, [.ref st, .ref hi, .ref re, .ref fo, .ref bu, .ref pa])), (st, .inr (6, [.ref la, .ref me, .ref li, .int 4, .int 0, .int 0]))]) (tc := [(K, .int)]) hG hS hA hK hP hD [0, 1] [2, 3] [0] rfl rfl (by decide) (by decide) (by decide) rfl
  refine k_endi (As := [.ref mo]) ct (k_runV (As := []) (rest := [.int 0]) S0 Lv_L_160 rfl (ci := 8) (q0 := 0) rfl rfl ct (c_M_failures l D mo ms 0 mb 0 mlk 0 mfd 0 0 0 0 K (upd (fun _ => 0) 93 4) (by first | assumption | exact (cpf_lo (by decide)).trans (by assumption)) (by first | assumption | exact (cpf_lo (by decide)).trans (by assumption)) (by first | assumption | exact (cpf_lo (by decide)).trans (by assumption)) (by first | assumption | exact (cpf_lo (by decide)).trans (by assumption)) (by first | assumption | exact (cpf_lo (by decide)).trans (by assumption)) (by first | assumption | exact (cpf_lo (by decide)).trans (by assumption)) H.size) hl.1 rfl (Nat.le_of_ble_eq_true rfl) rfl dL_law_1109 ⟨⟨Nat.le_of_ble_eq_true rfl, Nat.le_of_ble_eq_true rfl⟩, Nat.le_of_ble_eq_true rfl, Nat.le_of_ble_eq_true rfl⟩) rfl rfl (fun r_3 _ H locs hw_4 hP hD hK hS => ?_)
  have hK : va_K D vwCl [(K, .int), (KS, .object "BarcodeWand$State"), (KC, .char), (KL, .long)] s := hK
  have hP : va_P D vwCl [(w, .inr (7, [.ref st, .ref hi, .ref re, .ref fo, .ref bu, .ref pa])), (st, .inr (6, [.ref la, .ref me, .ref li, .int 4, .int 0, .int 0])), (mo, .inr (8, [.ref ms, .int 0, .ref mb, .int 0, .int 0, .ref mlk, .int 0, .ref mfd, .int 0, .int 0, .int 0, .int 0])), (ms, .inl (K, 889, .inl (upd (fun _ => 0) 93 4)))] H := hP
  have hD : va_D A [(w, .inr (7, [.ref st, .ref hi, .ref re, .ref fo, .ref bu, .ref pa])), (st, .inr (6, [.ref la, .ref me, .ref li, .int 4, .int 0, .int 0])), (mo, .inr (8, [.ref ms, .int 0, .ref mb, .int 0, .int 0, .ref mlk, .int 0, .ref mfd, .int 0, .int 0, .int 0, .int 0])), (ms, .inl (K, 889, .inl (upd (fun _ => 0) 93 4)))] := hD
  have hw_4 : r_3 = 0 := hw_4
  have hw_4 := hw_4.symm
  subst hw_4
  refine k_nrm (y := 0) rfl ?_
  refine lv_icmp_eq (tgt := 1479) hx hb dL_law_1112 (by decide) (fun _ => ?_) (fun c9 => absurd (by decide) c9)
  exact law_end C0 (by rw [hAe]; exact hS) (lv_sub hl [0, 4] rfl) (Nat.le_of_ble_eq_true rfl) (Nat.le_of_ble_eq_true rfl)
set_option maxHeartbeats 4000000 in
set_option maxRecDepth 100000 in
theorem law_c22 {p : Program} {l : Launch} {e : Env} {s : State} {m : MethodId} {below : List Frame} {meth : Method} {c : Code} {b : Nat} {xs : Nat → Int32} (hst : l.stackTraces = false) (D : va_G) (C0 : lw_At p s m meth c b 4 xs) (hG : k_G (fun q : Nat => s.heap.size ≤ q) s s.heap) {H : Heap} {locs : List Loc} {ls : Array Slot} (h : law_I D s b H locs ls) : W p l e room_1 s m #[Value.ref b] below meth c H locs 124 2208 (lw_Z below #[Value.ref b] s) (F0 m 1117 ls []) := by
  have C1 := C0
  obtain ⟨hx, hb, hr, hml, hown, hts, hX, hbl, hlocks, hgv⟩ := C1
  have hown : s.vm.findClass RL = some m.cls := hown
  have ht : ∀ v9 ∈ wsA, v9.before #[Value.ref b] s = true := fun v9 h9 => hts v9 (wsA_tbl h9)
  have S0 : k_C p s m #[Value.ref b] c cL_law 7 RL := ⟨hx, hb, hml, hown, ht⟩
  have hbA : ¬ (fun q : Nat => s.heap.size ≤ q) b := Nat.not_le.mpr hbl
  have hA : ∀ q : Nat, s.heap.size ≤ q → (fun q : Nat => s.heap.size ≤ q) q := fun _ h9 => h9
  obtain ⟨y1, hy1⟩ : ∃ z9 : Int32, z9 = xs 1 := ⟨_, rfl⟩
  obtain ⟨y2, hy2⟩ : ∃ z9 : Int32, z9 = xs 2 := ⟨_, rfl⟩
  obtain ⟨y3, hy3⟩ : ∃ z9 : Int32, z9 = xs 3 := ⟨_, rfl⟩
  have hs0 : (upd (fun _ => 0) 93 4) 0 = 0 := rfl
  have hs51 : (upd (fun _ => 0) 93 4) 51 = 0 := rfl
  have hs93 : (upd (fun _ => 0) 93 4) 93 = 4 := rfl
  have hs94 : (upd (fun _ => 0) 93 4) 94 = 0 := rfl
  have hs125 : (upd (fun _ => 0) 93 4) 125 = 0 := rfl
  have hs126 : (upd (fun _ => 0) 93 4) 126 = 0 := rfl
  obtain ⟨w, st, la, ld, ldA, lz, lzA, me, meA, li, ln, lnA, ll, llA, lc, lcA, hi, ri, zst, zla, zld, zldA, zlz, zlzA, zme, zmeA, zli, zln, zlnA, zll, zllA, zlc, zlcA, re, rd, rdA, rl, rlA, fo, foA, bu, buA, pa, mo, ms, mb, mlk, mfd, out, rf, K, KS, KC, KL, hrf, hK, hP, hD, hS, hl⟩ := h
  have hl : lv_has ls 7 [(4, .int 0), (3, .ref out), (2, .ref mo), (1, .ref w), (0, .ref b)] := hl
  generalize hAe : (fun q : Nat => s.heap.size ≤ q) = A at hG hD hS hA hbA
  have hP : va_P D vwCl [(w, .inr (7, [.ref st, .ref hi, .ref re, .ref fo, .ref bu, .ref pa])), (st, .inr (6, [.ref la, .ref me, .ref li, .int 4, .int 0, .int 0])), (la, .inr (2, [.ref ld, .ref lz])), (lz, .inr (4, [.ref lzA, .int 0])), (mo, .inr (8, [.ref ms, .int 0, .ref mb, .int 0, .int 0, .ref mlk, .int 0, .ref mfd, .int 0, .int 0, .int 0, .int 0])), (ms, .inl (K, 889, .inl (upd (fun _ => 0) 93 4))), (out, .inl (KL, 1, .inr (.inl (fun _ => 0))))] H := hP.sub [0, 1, 2, 5, 43, 44, 48] rfl
  have hD : va_D A [(w, .inr (7, [.ref st, .ref hi, .ref re, .ref fo, .ref bu, .ref pa])), (st, .inr (6, [.ref la, .ref me, .ref li, .int 4, .int 0, .int 0])), (la, .inr (2, [.ref ld, .ref lz])), (lz, .inr (4, [.ref lzA, .int 0])), (mo, .inr (8, [.ref ms, .int 0, .ref mb, .int 0, .int 0, .ref mlk, .int 0, .ref mfd, .int 0, .int 0, .int 0, .int 0])), (ms, .inl (K, 889, .inl (upd (fun _ => 0) 93 4))), (out, .inl (KL, 1, .inr (.inl (fun _ => 0))))] := hD.sub [0, 1, 2, 5, 43, 44, 48] (by decide) rfl
  refine lv_aload_n hx hb dL_law_1117 rfl (lv_at hl 3 rfl) ?_
  refine lv_aload_n hx hb dL_law_1118 rfl (lv_at hl 4 rfl) ?_
  refine lv_iload hx hb dL_law_1119 (lv_at hl 0 rfl) ?_
  refine lv_iconst (v := 1) hx hb dL_law_1121 (by decide) ?_
  refine lv_iadd hx hb dL_law_1122 ?_
  refine k_nrm (y := 1) (by decide) ?_
  refine va_sld hx hb hX hbl hbA hS (by unfold vp_in; decide) dL_law_1123 ?_
  refine k_nrm (y := y1) (by rw [hy1]; rfl) ?_
  refine lv_aload_n hx hb dL_law_1124 rfl (lv_at hl 4 rfl) ?_
  refine lv_iload hx hb dL_law_1125 (lv_at hl 0 rfl) ?_
  refine lv_iconst (v := 2) hx hb dL_law_1127 (by decide) ?_
  refine lv_iadd hx hb dL_law_1128 ?_
  refine k_nrm (y := 2) (by decide) ?_
  refine va_sld hx hb hX hbl hbA hS (by unfold vp_in; decide) dL_law_1129 ?_
  refine k_nrm (y := y2) (by rw [hy2]; rfl) ?_
  refine lv_aload_n hx hb dL_law_1130 rfl (lv_at hl 4 rfl) ?_
  refine lv_iload hx hb dL_law_1131 (lv_at hl 0 rfl) ?_
  refine lv_iconst (v := 3) hx hb dL_law_1133 (by decide) ?_
  refine lv_iadd hx hb dL_law_1134 ?_
  refine k_nrm (y := 3) (by decide) ?_
  refine va_sld hx hb hX hbl hbA hS (by unfold vp_in; decide) dL_law_1135 ?_
  refine k_nrm (y := y3) (by rw [hy3]; rfl) ?_
  refine lv_if_eq (tgt := 1143) hx hb dL_law_1136 (by decide) (fun c_1 => ?_) (fun c_1 => ?_)
  · have hc9 := c_1
    refine lv_iconst (v := 0) hx hb dL_law_1143 (by decide) ?_
    refine lv_aload_n hx hb dL_law_1144 rfl (lv_at hl 1 rfl) ?_
    have ct := k_cut_of (wc := [(w, .inr (7, [.ref st, .ref hi, .ref re, .ref fo, .ref bu, .ref pa])), (st, .inr (6, [.ref la, .ref me, .ref li, .int 4, .int 0, .int 0])), (la, .inr (2, [.ref ld, .ref lz])), (lz, .inr (4, [.ref lzA, .int 0])), (out, .inl (KL, 1, .inr (.inl (fun _ => 0))))]) (wr := [(mo, .inr (8, [.ref ms, .int 0, .ref mb, .int 0, .int 0, .ref mlk, .int 0, .ref mfd, .int 0, .int 0, .int 0, .int 0])), (ms, .inl (K, 889, .inl (upd (fun _ => 0) 93 4)))]) (tc := [(KL, .long)]) hG hS hA hK hP hD [0, 1, 2, 3, 6] [4, 5] [3] rfl rfl (by decide) (by decide) (by decide) rfl
    refine k_endi (As := [.ref w, .int y1, .int y2, .int 0, .ref out]) ct (k_runSW (As := [.ref w, .int y1, .int y2, .int 0, .ref out]) (rest := []) S0 Ls_L_161 ct (c_L_ifDrawn l hst D w st hi re fo bu pa la me li 4 0 0 ld lz lzA y1 y2 0 out KL (fun _ => 0) H.size) hl.1 rfl (Nat.le_of_ble_eq_true rfl) rfl dL_law_1145 ⟨⟨Nat.le_of_ble_eq_true rfl, Nat.le_of_ble_eq_true rfl⟩, Nat.le_of_ble_eq_true rfl, Nat.le_of_ble_eq_true rfl⟩) rfl rfl (fun r_2 og_3 H locs hw_4 hP hD hK hS => ?_)
    have hK : va_K D vwCl [(K, .int), (KS, .object "BarcodeWand$State"), (KC, .char), (KL, .long)] s := hK
    have hP : va_P D vwCl [(mo, .inr (8, [.ref ms, .int 0, .ref mb, .int 0, .int 0, .ref mlk, .int 0, .ref mfd, .int 0, .int 0, .int 0, .int 0])), (ms, .inl (K, 889, .inl (upd (fun _ => 0) 93 4))), (out, .inl (KL, 1, .inr (.inl og_3)))] H := hP
    have hD : va_D A [(mo, .inr (8, [.ref ms, .int 0, .ref mb, .int 0, .int 0, .ref mlk, .int 0, .ref mfd, .int 0, .int 0, .int 0, .int 0])), (ms, .inl (K, 889, .inl (upd (fun _ => 0) 93 4))), (out, .inl (KL, 1, .inr (.inl og_3)))] := hD
    rcases hw_4 with ⟨c_5, rfl⟩ | ⟨c_6, rfl⟩
    · skip
      refine lv_istore (lv' := [(5, .int 2), (4, .int 0), (3, .ref out), (2, .ref mo), (1, .ref w), (0, .ref b)]) hx hb dL_law_1148 hl (by decide) rfl (fun ls hl => ?_)
      refine lv_aload_n hx hb dL_law_1150 rfl (lv_at hl 3 rfl) ?_
      refine lv_aload_n hx hb dL_law_1151 rfl (lv_at hl 5 rfl) ?_
      refine lv_iload hx hb dL_law_1152 (lv_at hl 1 rfl) ?_
      refine lv_iconst (v := 1) hx hb dL_law_1154 (by decide) ?_
      refine lv_iadd hx hb dL_law_1155 ?_
      refine k_nrm (y := 1) (by decide) ?_
      refine va_sld hx hb hX hbl hbA hS (by unfold vp_in; decide) dL_law_1156 ?_
      refine k_nrm (y := y1) (by rw [hy1]; rfl) ?_
      refine lv_aload_n hx hb dL_law_1157 rfl (lv_at hl 5 rfl) ?_
      refine lv_iload hx hb dL_law_1158 (lv_at hl 1 rfl) ?_
      refine lv_iconst (v := 2) hx hb dL_law_1160 (by decide) ?_
      refine lv_iadd hx hb dL_law_1161 ?_
      refine k_nrm (y := 2) (by decide) ?_
      refine va_sld hx hb hX hbl hbA hS (by unfold vp_in; decide) dL_law_1162 ?_
      refine k_nrm (y := y2) (by rw [hy2]; rfl) ?_
      refine lv_aload_n hx hb dL_law_1163 rfl (lv_at hl 5 rfl) ?_
      refine lv_iload hx hb dL_law_1164 (lv_at hl 1 rfl) ?_
      refine lv_iconst (v := 3) hx hb dL_law_1166 (by decide) ?_
      refine lv_iadd hx hb dL_law_1167 ?_
      refine k_nrm (y := 3) (by decide) ?_
      refine va_sld hx hb hX hbl hbA hS (by unfold vp_in; decide) dL_law_1168 ?_
      refine k_nrm (y := y3) (by rw [hy3]; rfl) ?_
      refine lv_if_eq (tgt := 1176) hx hb dL_law_1169 (by decide) (fun c_7 => ?_) (fun c9 => absurd c_1 c9)
      refine lv_iconst (v := 0) hx hb dL_law_1176 (by decide) ?_
      have ct := k_cut_of (wc := [(mo, .inr (8, [.ref ms, .int 0, .ref mb, .int 0, .int 0, .ref mlk, .int 0, .ref mfd, .int 0, .int 0, .int 0, .int 0])), (ms, .inl (K, 889, .inl (upd (fun _ => 0) 93 4)))]) (wr := [(out, .inl (KL, 1, .inr (.inl og_3)))]) (tc := [(K, .int)]) hG hS hA hK hP hD [0, 1] [2] [0] rfl rfl (by decide) (by decide) (by decide) rfl
      refine k_endi (As := [.ref mo, .int y1, .int y2, .int 0]) ct (k_runV (As := [.int y1, .int y2, .int 0]) (rest := []) S0 Lv_L_163 rfl (ci := 8) (q0 := 0) rfl rfl ct (c_M_ifDrawn l D mo ms 0 mb 0 mlk 0 mfd 0 0 0 0 K (upd (fun _ => 0) 93 4) y1 y2 0 (by first | assumption | exact (cpf_lo (by decide)).trans (by assumption)) (by first | assumption | exact (cpf_lo (by decide)).trans (by assumption)) (by first | assumption | exact (cpf_lo (by decide)).trans (by assumption)) (by first | assumption | exact (cpf_lo (by decide)).trans (by assumption)) (by first | assumption | exact (cpf_lo (by decide)).trans (by assumption)) (by first | assumption | exact (cpf_lo (by decide)).trans (by assumption)) H.size) hl.1 rfl (Nat.le_of_ble_eq_true rfl) rfl dL_law_1177 ⟨⟨Nat.le_of_ble_eq_true rfl, Nat.le_of_ble_eq_true rfl⟩, Nat.le_of_ble_eq_true rfl, Nat.le_of_ble_eq_true rfl⟩) rfl rfl (fun r_8 th1v_9 H locs hw_10 hP hD hK hS => ?_)
      have hK : va_K D vwCl [(K, .int), (KS, .object "BarcodeWand$State"), (KC, .char), (KL, .long)] s := hK
      have hP : va_P D vwCl [(out, .inl (KL, 1, .inr (.inl og_3))), (mo, .inr (8, [.ref ms, .int 0, .ref mb, .int 0, .int th1v_9, .ref mlk, .int 0, .ref mfd, .int 0, .int 0, .int 0, .int 0])), (ms, .inl (K, 889, .inl (upd (fun _ => 0) 93 4)))] H := hP
      have hD : va_D A [(out, .inl (KL, 1, .inr (.inl og_3))), (mo, .inr (8, [.ref ms, .int 0, .ref mb, .int 0, .int th1v_9, .ref mlk, .int 0, .ref mfd, .int 0, .int 0, .int 0, .int 0])), (ms, .inl (K, 889, .inl (upd (fun _ => 0) 93 4)))] := hD
      rcases hw_10 with ⟨c_11, rfl⟩ | ⟨c_12, rfl⟩
      · skip
        refine lv_istore (lv' := [(6, .int r_8), (5, .int 2), (4, .int 0), (3, .ref out), (2, .ref mo), (1, .ref w), (0, .ref b)]) hx hb dL_law_1180 hl (by decide) rfl (fun ls hl => ?_)
        refine lv_aload_n hx hb dL_law_1182 rfl (lv_at hl 4 rfl) ?_
        have ct := k_cut_of (wc := [(mo, .inr (8, [.ref ms, .int 0, .ref mb, .int 0, .int 2, .ref mlk, .int 0, .ref mfd, .int 0, .int 0, .int 0, .int 0]))]) (wr := [(out, .inl (KL, 1, .inr (.inl og_3))), (ms, .inl (K, 889, .inl (upd (fun _ => 0) 93 4)))]) (tc := []) hG hS hA hK hP hD [1] [0, 2] [] rfl rfl (by decide) (by decide) (by decide) rfl
        refine k_endi (As := [.ref mo]) ct (k_runV (As := []) (rest := []) S0 Lv_L_83 rfl (ci := 8) (q0 := 0) rfl rfl ct (c_M_thrown2 l D mo ms 0 mb 0 2 mlk 0 mfd 0 0 0 0 H.size) hl.1 rfl (Nat.le_of_ble_eq_true rfl) rfl dL_law_1183 ⟨⟨Nat.le_of_ble_eq_true rfl, Nat.le_of_ble_eq_true rfl⟩, Nat.le_of_ble_eq_true rfl, Nat.le_of_ble_eq_true rfl⟩) rfl rfl (fun r_13 _ H locs hw_14 hP hD hK hS => ?_)
        have hK : va_K D vwCl [(K, .int), (KS, .object "BarcodeWand$State"), (KC, .char), (KL, .long)] s := hK
        have hP : va_P D vwCl [(out, .inl (KL, 1, .inr (.inl og_3))), (ms, .inl (K, 889, .inl (upd (fun _ => 0) 93 4))), (mo, .inr (8, [.ref ms, .int 0, .ref mb, .int 0, .int 2, .ref mlk, .int 0, .ref mfd, .int 0, .int 0, .int 0, .int 0]))] H := hP
        have hD : va_D A [(out, .inl (KL, 1, .inr (.inl og_3))), (ms, .inl (K, 889, .inl (upd (fun _ => 0) 93 4))), (mo, .inr (8, [.ref ms, .int 0, .ref mb, .int 0, .int 2, .ref mlk, .int 0, .ref mfd, .int 0, .int 0, .int 0, .int 0]))] := hD
        have hw_14 : r_13 = 2 := hw_14
        have hw_14 := hw_14.symm
        subst hw_14
        refine k_nrm (y := 2) rfl ?_
        refine lv_iload hx hb dL_law_1186 (lv_at hl 1 rfl) ?_
        refine lv_icmp_eq (tgt := 1193) hx hb dL_law_1188 (by decide) (fun _ => ?_) (fun c9 => absurd (by decide) c9)
        refine lv_iload hx hb dL_law_1193 (lv_at hl 1 rfl) ?_
        refine lv_if_ne (tgt := 1210) hx hb dL_law_1195 (by decide) (fun _ => ?_) (fun c9 => absurd c9 (by decide))
        refine lv_goto (tgt := 1479) hx hb dL_law_1210 (by decide) ?_
        exact law_end C0 (by rw [hAe]; exact hS) (lv_sub hl [2, 6] rfl) (Nat.le_of_ble_eq_true rfl) (Nat.le_of_ble_eq_true rfl)
      · skip
        exact absurd c_5 c_12
    · skip
      refine lv_istore (lv' := [(5, .int 1), (4, .int 0), (3, .ref out), (2, .ref mo), (1, .ref w), (0, .ref b)]) hx hb dL_law_1148 hl (by decide) rfl (fun ls hl => ?_)
      refine lv_aload_n hx hb dL_law_1150 rfl (lv_at hl 3 rfl) ?_
      refine lv_aload_n hx hb dL_law_1151 rfl (lv_at hl 5 rfl) ?_
      refine lv_iload hx hb dL_law_1152 (lv_at hl 1 rfl) ?_
      refine lv_iconst (v := 1) hx hb dL_law_1154 (by decide) ?_
      refine lv_iadd hx hb dL_law_1155 ?_
      refine k_nrm (y := 1) (by decide) ?_
      refine va_sld hx hb hX hbl hbA hS (by unfold vp_in; decide) dL_law_1156 ?_
      refine k_nrm (y := y1) (by rw [hy1]; rfl) ?_
      refine lv_aload_n hx hb dL_law_1157 rfl (lv_at hl 5 rfl) ?_
      refine lv_iload hx hb dL_law_1158 (lv_at hl 1 rfl) ?_
      refine lv_iconst (v := 2) hx hb dL_law_1160 (by decide) ?_
      refine lv_iadd hx hb dL_law_1161 ?_
      refine k_nrm (y := 2) (by decide) ?_
      refine va_sld hx hb hX hbl hbA hS (by unfold vp_in; decide) dL_law_1162 ?_
      refine k_nrm (y := y2) (by rw [hy2]; rfl) ?_
      refine lv_aload_n hx hb dL_law_1163 rfl (lv_at hl 5 rfl) ?_
      refine lv_iload hx hb dL_law_1164 (lv_at hl 1 rfl) ?_
      refine lv_iconst (v := 3) hx hb dL_law_1166 (by decide) ?_
      refine lv_iadd hx hb dL_law_1167 ?_
      refine k_nrm (y := 3) (by decide) ?_
      refine va_sld hx hb hX hbl hbA hS (by unfold vp_in; decide) dL_law_1168 ?_
      refine k_nrm (y := y3) (by rw [hy3]; rfl) ?_
      refine lv_if_eq (tgt := 1176) hx hb dL_law_1169 (by decide) (fun c_15 => ?_) (fun c9 => absurd c_1 c9)
      refine lv_iconst (v := 0) hx hb dL_law_1176 (by decide) ?_
      have ct := k_cut_of (wc := [(mo, .inr (8, [.ref ms, .int 0, .ref mb, .int 0, .int 0, .ref mlk, .int 0, .ref mfd, .int 0, .int 0, .int 0, .int 0])), (ms, .inl (K, 889, .inl (upd (fun _ => 0) 93 4)))]) (wr := [(out, .inl (KL, 1, .inr (.inl og_3)))]) (tc := [(K, .int)]) hG hS hA hK hP hD [0, 1] [2] [0] rfl rfl (by decide) (by decide) (by decide) rfl
      refine k_endi (As := [.ref mo, .int y1, .int y2, .int 0]) ct (k_runV (As := [.int y1, .int y2, .int 0]) (rest := []) S0 Lv_L_163 rfl (ci := 8) (q0 := 0) rfl rfl ct (c_M_ifDrawn l D mo ms 0 mb 0 mlk 0 mfd 0 0 0 0 K (upd (fun _ => 0) 93 4) y1 y2 0 (by first | assumption | exact (cpf_lo (by decide)).trans (by assumption)) (by first | assumption | exact (cpf_lo (by decide)).trans (by assumption)) (by first | assumption | exact (cpf_lo (by decide)).trans (by assumption)) (by first | assumption | exact (cpf_lo (by decide)).trans (by assumption)) (by first | assumption | exact (cpf_lo (by decide)).trans (by assumption)) (by first | assumption | exact (cpf_lo (by decide)).trans (by assumption)) H.size) hl.1 rfl (Nat.le_of_ble_eq_true rfl) rfl dL_law_1177 ⟨⟨Nat.le_of_ble_eq_true rfl, Nat.le_of_ble_eq_true rfl⟩, Nat.le_of_ble_eq_true rfl, Nat.le_of_ble_eq_true rfl⟩) rfl rfl (fun r_16 th1v_17 H locs hw_18 hP hD hK hS => ?_)
      have hK : va_K D vwCl [(K, .int), (KS, .object "BarcodeWand$State"), (KC, .char), (KL, .long)] s := hK
      have hP : va_P D vwCl [(out, .inl (KL, 1, .inr (.inl og_3))), (mo, .inr (8, [.ref ms, .int 0, .ref mb, .int 0, .int th1v_17, .ref mlk, .int 0, .ref mfd, .int 0, .int 0, .int 0, .int 0])), (ms, .inl (K, 889, .inl (upd (fun _ => 0) 93 4)))] H := hP
      have hD : va_D A [(out, .inl (KL, 1, .inr (.inl og_3))), (mo, .inr (8, [.ref ms, .int 0, .ref mb, .int 0, .int th1v_17, .ref mlk, .int 0, .ref mfd, .int 0, .int 0, .int 0, .int 0])), (ms, .inl (K, 889, .inl (upd (fun _ => 0) 93 4)))] := hD
      rcases hw_18 with ⟨c_19, rfl⟩ | ⟨c_20, rfl⟩
      · skip
        exact absurd c_19 c_6
      · skip
        refine lv_istore (lv' := [(6, .int r_16), (5, .int 1), (4, .int 0), (3, .ref out), (2, .ref mo), (1, .ref w), (0, .ref b)]) hx hb dL_law_1180 hl (by decide) rfl (fun ls hl => ?_)
        refine lv_aload_n hx hb dL_law_1182 rfl (lv_at hl 4 rfl) ?_
        have ct := k_cut_of (wc := [(mo, .inr (8, [.ref ms, .int 0, .ref mb, .int 0, .int 1, .ref mlk, .int 0, .ref mfd, .int 0, .int 0, .int 0, .int 0]))]) (wr := [(out, .inl (KL, 1, .inr (.inl og_3))), (ms, .inl (K, 889, .inl (upd (fun _ => 0) 93 4)))]) (tc := []) hG hS hA hK hP hD [1] [0, 2] [] rfl rfl (by decide) (by decide) (by decide) rfl
        refine k_endi (As := [.ref mo]) ct (k_runV (As := []) (rest := []) S0 Lv_L_83 rfl (ci := 8) (q0 := 0) rfl rfl ct (c_M_thrown2 l D mo ms 0 mb 0 1 mlk 0 mfd 0 0 0 0 H.size) hl.1 rfl (Nat.le_of_ble_eq_true rfl) rfl dL_law_1183 ⟨⟨Nat.le_of_ble_eq_true rfl, Nat.le_of_ble_eq_true rfl⟩, Nat.le_of_ble_eq_true rfl, Nat.le_of_ble_eq_true rfl⟩) rfl rfl (fun r_21 _ H locs hw_22 hP hD hK hS => ?_)
        have hK : va_K D vwCl [(K, .int), (KS, .object "BarcodeWand$State"), (KC, .char), (KL, .long)] s := hK
        have hP : va_P D vwCl [(out, .inl (KL, 1, .inr (.inl og_3))), (ms, .inl (K, 889, .inl (upd (fun _ => 0) 93 4))), (mo, .inr (8, [.ref ms, .int 0, .ref mb, .int 0, .int 1, .ref mlk, .int 0, .ref mfd, .int 0, .int 0, .int 0, .int 0]))] H := hP
        have hD : va_D A [(out, .inl (KL, 1, .inr (.inl og_3))), (ms, .inl (K, 889, .inl (upd (fun _ => 0) 93 4))), (mo, .inr (8, [.ref ms, .int 0, .ref mb, .int 0, .int 1, .ref mlk, .int 0, .ref mfd, .int 0, .int 0, .int 0, .int 0]))] := hD
        have hw_22 : r_21 = 1 := hw_22
        have hw_22 := hw_22.symm
        subst hw_22
        refine k_nrm (y := 1) rfl ?_
        refine lv_iload hx hb dL_law_1186 (lv_at hl 1 rfl) ?_
        refine lv_icmp_eq (tgt := 1193) hx hb dL_law_1188 (by decide) (fun _ => ?_) (fun c9 => absurd (by decide) c9)
        refine lv_iload hx hb dL_law_1193 (lv_at hl 1 rfl) ?_
        refine lv_if_ne (tgt := 1210) hx hb dL_law_1195 (by decide) (fun _ => ?_) (fun c9 => absurd c9 (by decide))
        refine lv_goto (tgt := 1479) hx hb dL_law_1210 (by decide) ?_
        exact law_end C0 (by rw [hAe]; exact hS) (lv_sub hl [2, 6] rfl) (Nat.le_of_ble_eq_true rfl) (Nat.le_of_ble_eq_true rfl)
  · have hc9 := c_1
    refine lv_iconst (v := 1) hx hb dL_law_1139 (by decide) ?_
    refine lv_goto (tgt := 1144) hx hb dL_law_1140 (by decide) ?_
    refine lv_aload_n hx hb dL_law_1144 rfl (lv_at hl 1 rfl) ?_
    have ct := k_cut_of (wc := [(w, .inr (7, [.ref st, .ref hi, .ref re, .ref fo, .ref bu, .ref pa])), (st, .inr (6, [.ref la, .ref me, .ref li, .int 4, .int 0, .int 0])), (la, .inr (2, [.ref ld, .ref lz])), (lz, .inr (4, [.ref lzA, .int 0])), (out, .inl (KL, 1, .inr (.inl (fun _ => 0))))]) (wr := [(mo, .inr (8, [.ref ms, .int 0, .ref mb, .int 0, .int 0, .ref mlk, .int 0, .ref mfd, .int 0, .int 0, .int 0, .int 0])), (ms, .inl (K, 889, .inl (upd (fun _ => 0) 93 4)))]) (tc := [(KL, .long)]) hG hS hA hK hP hD [0, 1, 2, 3, 6] [4, 5] [3] rfl rfl (by decide) (by decide) (by decide) rfl
    refine k_endi (As := [.ref w, .int y1, .int y2, .int 1, .ref out]) ct (k_runSW (As := [.ref w, .int y1, .int y2, .int 1, .ref out]) (rest := []) S0 Ls_L_161 ct (c_L_ifDrawn l hst D w st hi re fo bu pa la me li 4 0 0 ld lz lzA y1 y2 1 out KL (fun _ => 0) H.size) hl.1 rfl (Nat.le_of_ble_eq_true rfl) rfl dL_law_1145 ⟨⟨Nat.le_of_ble_eq_true rfl, Nat.le_of_ble_eq_true rfl⟩, Nat.le_of_ble_eq_true rfl, Nat.le_of_ble_eq_true rfl⟩) rfl rfl (fun r_23 og_24 H locs hw_25 hP hD hK hS => ?_)
    have hK : va_K D vwCl [(K, .int), (KS, .object "BarcodeWand$State"), (KC, .char), (KL, .long)] s := hK
    have hP : va_P D vwCl [(mo, .inr (8, [.ref ms, .int 0, .ref mb, .int 0, .int 0, .ref mlk, .int 0, .ref mfd, .int 0, .int 0, .int 0, .int 0])), (ms, .inl (K, 889, .inl (upd (fun _ => 0) 93 4))), (out, .inl (KL, 1, .inr (.inl og_24)))] H := hP
    have hD : va_D A [(mo, .inr (8, [.ref ms, .int 0, .ref mb, .int 0, .int 0, .ref mlk, .int 0, .ref mfd, .int 0, .int 0, .int 0, .int 0])), (ms, .inl (K, 889, .inl (upd (fun _ => 0) 93 4))), (out, .inl (KL, 1, .inr (.inl og_24)))] := hD
    rcases hw_25 with ⟨c_26, rfl⟩ | ⟨c_27, rfl⟩
    · skip
      refine lv_istore (lv' := [(5, .int 2), (4, .int 0), (3, .ref out), (2, .ref mo), (1, .ref w), (0, .ref b)]) hx hb dL_law_1148 hl (by decide) rfl (fun ls hl => ?_)
      refine lv_aload_n hx hb dL_law_1150 rfl (lv_at hl 3 rfl) ?_
      refine lv_aload_n hx hb dL_law_1151 rfl (lv_at hl 5 rfl) ?_
      refine lv_iload hx hb dL_law_1152 (lv_at hl 1 rfl) ?_
      refine lv_iconst (v := 1) hx hb dL_law_1154 (by decide) ?_
      refine lv_iadd hx hb dL_law_1155 ?_
      refine k_nrm (y := 1) (by decide) ?_
      refine va_sld hx hb hX hbl hbA hS (by unfold vp_in; decide) dL_law_1156 ?_
      refine k_nrm (y := y1) (by rw [hy1]; rfl) ?_
      refine lv_aload_n hx hb dL_law_1157 rfl (lv_at hl 5 rfl) ?_
      refine lv_iload hx hb dL_law_1158 (lv_at hl 1 rfl) ?_
      refine lv_iconst (v := 2) hx hb dL_law_1160 (by decide) ?_
      refine lv_iadd hx hb dL_law_1161 ?_
      refine k_nrm (y := 2) (by decide) ?_
      refine va_sld hx hb hX hbl hbA hS (by unfold vp_in; decide) dL_law_1162 ?_
      refine k_nrm (y := y2) (by rw [hy2]; rfl) ?_
      refine lv_aload_n hx hb dL_law_1163 rfl (lv_at hl 5 rfl) ?_
      refine lv_iload hx hb dL_law_1164 (lv_at hl 1 rfl) ?_
      refine lv_iconst (v := 3) hx hb dL_law_1166 (by decide) ?_
      refine lv_iadd hx hb dL_law_1167 ?_
      refine k_nrm (y := 3) (by decide) ?_
      refine va_sld hx hb hX hbl hbA hS (by unfold vp_in; decide) dL_law_1168 ?_
      refine k_nrm (y := y3) (by rw [hy3]; rfl) ?_
      refine lv_if_eq (tgt := 1176) hx hb dL_law_1169 (by decide) (fun c9 => absurd c9 c_1) (fun c_28 => ?_)
      refine lv_iconst (v := 1) hx hb dL_law_1172 (by decide) ?_
      refine lv_goto (tgt := 1177) hx hb dL_law_1173 (by decide) ?_
      have ct := k_cut_of (wc := [(mo, .inr (8, [.ref ms, .int 0, .ref mb, .int 0, .int 0, .ref mlk, .int 0, .ref mfd, .int 0, .int 0, .int 0, .int 0])), (ms, .inl (K, 889, .inl (upd (fun _ => 0) 93 4)))]) (wr := [(out, .inl (KL, 1, .inr (.inl og_24)))]) (tc := [(K, .int)]) hG hS hA hK hP hD [0, 1] [2] [0] rfl rfl (by decide) (by decide) (by decide) rfl
      refine k_endi (As := [.ref mo, .int y1, .int y2, .int 1]) ct (k_runV (As := [.int y1, .int y2, .int 1]) (rest := []) S0 Lv_L_163 rfl (ci := 8) (q0 := 0) rfl rfl ct (c_M_ifDrawn l D mo ms 0 mb 0 mlk 0 mfd 0 0 0 0 K (upd (fun _ => 0) 93 4) y1 y2 1 (by first | assumption | exact (cpf_lo (by decide)).trans (by assumption)) (by first | assumption | exact (cpf_lo (by decide)).trans (by assumption)) (by first | assumption | exact (cpf_lo (by decide)).trans (by assumption)) (by first | assumption | exact (cpf_lo (by decide)).trans (by assumption)) (by first | assumption | exact (cpf_lo (by decide)).trans (by assumption)) (by first | assumption | exact (cpf_lo (by decide)).trans (by assumption)) H.size) hl.1 rfl (Nat.le_of_ble_eq_true rfl) rfl dL_law_1177 ⟨⟨Nat.le_of_ble_eq_true rfl, Nat.le_of_ble_eq_true rfl⟩, Nat.le_of_ble_eq_true rfl, Nat.le_of_ble_eq_true rfl⟩) rfl rfl (fun r_29 th1v_30 H locs hw_31 hP hD hK hS => ?_)
      have hK : va_K D vwCl [(K, .int), (KS, .object "BarcodeWand$State"), (KC, .char), (KL, .long)] s := hK
      have hP : va_P D vwCl [(out, .inl (KL, 1, .inr (.inl og_24))), (mo, .inr (8, [.ref ms, .int 0, .ref mb, .int 0, .int th1v_30, .ref mlk, .int 0, .ref mfd, .int 0, .int 0, .int 0, .int 0])), (ms, .inl (K, 889, .inl (upd (fun _ => 0) 93 4)))] H := hP
      have hD : va_D A [(out, .inl (KL, 1, .inr (.inl og_24))), (mo, .inr (8, [.ref ms, .int 0, .ref mb, .int 0, .int th1v_30, .ref mlk, .int 0, .ref mfd, .int 0, .int 0, .int 0, .int 0])), (ms, .inl (K, 889, .inl (upd (fun _ => 0) 93 4)))] := hD
      rcases hw_31 with ⟨c_32, rfl⟩ | ⟨c_33, rfl⟩
      · skip
        refine lv_istore (lv' := [(6, .int r_29), (5, .int 2), (4, .int 0), (3, .ref out), (2, .ref mo), (1, .ref w), (0, .ref b)]) hx hb dL_law_1180 hl (by decide) rfl (fun ls hl => ?_)
        refine lv_aload_n hx hb dL_law_1182 rfl (lv_at hl 4 rfl) ?_
        have ct := k_cut_of (wc := [(mo, .inr (8, [.ref ms, .int 0, .ref mb, .int 0, .int 2, .ref mlk, .int 0, .ref mfd, .int 0, .int 0, .int 0, .int 0]))]) (wr := [(out, .inl (KL, 1, .inr (.inl og_24))), (ms, .inl (K, 889, .inl (upd (fun _ => 0) 93 4)))]) (tc := []) hG hS hA hK hP hD [1] [0, 2] [] rfl rfl (by decide) (by decide) (by decide) rfl
        refine k_endi (As := [.ref mo]) ct (k_runV (As := []) (rest := []) S0 Lv_L_83 rfl (ci := 8) (q0 := 0) rfl rfl ct (c_M_thrown2 l D mo ms 0 mb 0 2 mlk 0 mfd 0 0 0 0 H.size) hl.1 rfl (Nat.le_of_ble_eq_true rfl) rfl dL_law_1183 ⟨⟨Nat.le_of_ble_eq_true rfl, Nat.le_of_ble_eq_true rfl⟩, Nat.le_of_ble_eq_true rfl, Nat.le_of_ble_eq_true rfl⟩) rfl rfl (fun r_34 _ H locs hw_35 hP hD hK hS => ?_)
        have hK : va_K D vwCl [(K, .int), (KS, .object "BarcodeWand$State"), (KC, .char), (KL, .long)] s := hK
        have hP : va_P D vwCl [(out, .inl (KL, 1, .inr (.inl og_24))), (ms, .inl (K, 889, .inl (upd (fun _ => 0) 93 4))), (mo, .inr (8, [.ref ms, .int 0, .ref mb, .int 0, .int 2, .ref mlk, .int 0, .ref mfd, .int 0, .int 0, .int 0, .int 0]))] H := hP
        have hD : va_D A [(out, .inl (KL, 1, .inr (.inl og_24))), (ms, .inl (K, 889, .inl (upd (fun _ => 0) 93 4))), (mo, .inr (8, [.ref ms, .int 0, .ref mb, .int 0, .int 2, .ref mlk, .int 0, .ref mfd, .int 0, .int 0, .int 0, .int 0]))] := hD
        have hw_35 : r_34 = 2 := hw_35
        have hw_35 := hw_35.symm
        subst hw_35
        refine k_nrm (y := 2) rfl ?_
        refine lv_iload hx hb dL_law_1186 (lv_at hl 1 rfl) ?_
        refine lv_icmp_eq (tgt := 1193) hx hb dL_law_1188 (by decide) (fun _ => ?_) (fun c9 => absurd (by decide) c9)
        refine lv_iload hx hb dL_law_1193 (lv_at hl 1 rfl) ?_
        refine lv_if_ne (tgt := 1210) hx hb dL_law_1195 (by decide) (fun _ => ?_) (fun c9 => absurd c9 (by decide))
        refine lv_goto (tgt := 1479) hx hb dL_law_1210 (by decide) ?_
        exact law_end C0 (by rw [hAe]; exact hS) (lv_sub hl [2, 6] rfl) (Nat.le_of_ble_eq_true rfl) (Nat.le_of_ble_eq_true rfl)
      · skip
        exact absurd c_26 c_33
    · skip
      refine lv_istore (lv' := [(5, .int 1), (4, .int 0), (3, .ref out), (2, .ref mo), (1, .ref w), (0, .ref b)]) hx hb dL_law_1148 hl (by decide) rfl (fun ls hl => ?_)
      refine lv_aload_n hx hb dL_law_1150 rfl (lv_at hl 3 rfl) ?_
      refine lv_aload_n hx hb dL_law_1151 rfl (lv_at hl 5 rfl) ?_
      refine lv_iload hx hb dL_law_1152 (lv_at hl 1 rfl) ?_
      refine lv_iconst (v := 1) hx hb dL_law_1154 (by decide) ?_
      refine lv_iadd hx hb dL_law_1155 ?_
      refine k_nrm (y := 1) (by decide) ?_
      refine va_sld hx hb hX hbl hbA hS (by unfold vp_in; decide) dL_law_1156 ?_
      refine k_nrm (y := y1) (by rw [hy1]; rfl) ?_
      refine lv_aload_n hx hb dL_law_1157 rfl (lv_at hl 5 rfl) ?_
      refine lv_iload hx hb dL_law_1158 (lv_at hl 1 rfl) ?_
      refine lv_iconst (v := 2) hx hb dL_law_1160 (by decide) ?_
      refine lv_iadd hx hb dL_law_1161 ?_
      refine k_nrm (y := 2) (by decide) ?_
      refine va_sld hx hb hX hbl hbA hS (by unfold vp_in; decide) dL_law_1162 ?_
      refine k_nrm (y := y2) (by rw [hy2]; rfl) ?_
      refine lv_aload_n hx hb dL_law_1163 rfl (lv_at hl 5 rfl) ?_
      refine lv_iload hx hb dL_law_1164 (lv_at hl 1 rfl) ?_
      refine lv_iconst (v := 3) hx hb dL_law_1166 (by decide) ?_
      refine lv_iadd hx hb dL_law_1167 ?_
      refine k_nrm (y := 3) (by decide) ?_
      refine va_sld hx hb hX hbl hbA hS (by unfold vp_in; decide) dL_law_1168 ?_
      refine k_nrm (y := y3) (by rw [hy3]; rfl) ?_
      refine lv_if_eq (tgt := 1176) hx hb dL_law_1169 (by decide) (fun c9 => absurd c9 c_1) (fun c_36 => ?_)
      refine lv_iconst (v := 1) hx hb dL_law_1172 (by decide) ?_
      refine lv_goto (tgt := 1177) hx hb dL_law_1173 (by decide) ?_
      have ct := k_cut_of (wc := [(mo, .inr (8, [.ref ms, .int 0, .ref mb, .int 0, .int 0, .ref mlk, .int 0, .ref mfd, .int 0, .int 0, .int 0, .int 0])), (ms, .inl (K, 889, .inl (upd (fun _ => 0) 93 4)))]) (wr := [(out, .inl (KL, 1, .inr (.inl og_24)))]) (tc := [(K, .int)]) hG hS hA hK hP hD [0, 1] [2] [0] rfl rfl (by decide) (by decide) (by decide) rfl
      refine k_endi (As := [.ref mo, .int y1, .int y2, .int 1]) ct (k_runV (As := [.int y1, .int y2, .int 1]) (rest := []) S0 Lv_L_163 rfl (ci := 8) (q0 := 0) rfl rfl ct (c_M_ifDrawn l D mo ms 0 mb 0 mlk 0 mfd 0 0 0 0 K (upd (fun _ => 0) 93 4) y1 y2 1 (by first | assumption | exact (cpf_lo (by decide)).trans (by assumption)) (by first | assumption | exact (cpf_lo (by decide)).trans (by assumption)) (by first | assumption | exact (cpf_lo (by decide)).trans (by assumption)) (by first | assumption | exact (cpf_lo (by decide)).trans (by assumption)) (by first | assumption | exact (cpf_lo (by decide)).trans (by assumption)) (by first | assumption | exact (cpf_lo (by decide)).trans (by assumption)) H.size) hl.1 rfl (Nat.le_of_ble_eq_true rfl) rfl dL_law_1177 ⟨⟨Nat.le_of_ble_eq_true rfl, Nat.le_of_ble_eq_true rfl⟩, Nat.le_of_ble_eq_true rfl, Nat.le_of_ble_eq_true rfl⟩) rfl rfl (fun r_37 th1v_38 H locs hw_39 hP hD hK hS => ?_)
      have hK : va_K D vwCl [(K, .int), (KS, .object "BarcodeWand$State"), (KC, .char), (KL, .long)] s := hK
      have hP : va_P D vwCl [(out, .inl (KL, 1, .inr (.inl og_24))), (mo, .inr (8, [.ref ms, .int 0, .ref mb, .int 0, .int th1v_38, .ref mlk, .int 0, .ref mfd, .int 0, .int 0, .int 0, .int 0])), (ms, .inl (K, 889, .inl (upd (fun _ => 0) 93 4)))] H := hP
      have hD : va_D A [(out, .inl (KL, 1, .inr (.inl og_24))), (mo, .inr (8, [.ref ms, .int 0, .ref mb, .int 0, .int th1v_38, .ref mlk, .int 0, .ref mfd, .int 0, .int 0, .int 0, .int 0])), (ms, .inl (K, 889, .inl (upd (fun _ => 0) 93 4)))] := hD
      rcases hw_39 with ⟨c_40, rfl⟩ | ⟨c_41, rfl⟩
      · skip
        exact absurd c_40 c_27
      · skip
        refine lv_istore (lv' := [(6, .int r_37), (5, .int 1), (4, .int 0), (3, .ref out), (2, .ref mo), (1, .ref w), (0, .ref b)]) hx hb dL_law_1180 hl (by decide) rfl (fun ls hl => ?_)
        refine lv_aload_n hx hb dL_law_1182 rfl (lv_at hl 4 rfl) ?_
        have ct := k_cut_of (wc := [(mo, .inr (8, [.ref ms, .int 0, .ref mb, .int 0, .int 1, .ref mlk, .int 0, .ref mfd, .int 0, .int 0, .int 0, .int 0]))]) (wr := [(out, .inl (KL, 1, .inr (.inl og_24))), (ms, .inl (K, 889, .inl (upd (fun _ => 0) 93 4)))]) (tc := []) hG hS hA hK hP hD [1] [0, 2] [] rfl rfl (by decide) (by decide) (by decide) rfl
        refine k_endi (As := [.ref mo]) ct (k_runV (As := []) (rest := []) S0 Lv_L_83 rfl (ci := 8) (q0 := 0) rfl rfl ct (c_M_thrown2 l D mo ms 0 mb 0 1 mlk 0 mfd 0 0 0 0 H.size) hl.1 rfl (Nat.le_of_ble_eq_true rfl) rfl dL_law_1183 ⟨⟨Nat.le_of_ble_eq_true rfl, Nat.le_of_ble_eq_true rfl⟩, Nat.le_of_ble_eq_true rfl, Nat.le_of_ble_eq_true rfl⟩) rfl rfl (fun r_42 _ H locs hw_43 hP hD hK hS => ?_)
        have hK : va_K D vwCl [(K, .int), (KS, .object "BarcodeWand$State"), (KC, .char), (KL, .long)] s := hK
        have hP : va_P D vwCl [(out, .inl (KL, 1, .inr (.inl og_24))), (ms, .inl (K, 889, .inl (upd (fun _ => 0) 93 4))), (mo, .inr (8, [.ref ms, .int 0, .ref mb, .int 0, .int 1, .ref mlk, .int 0, .ref mfd, .int 0, .int 0, .int 0, .int 0]))] H := hP
        have hD : va_D A [(out, .inl (KL, 1, .inr (.inl og_24))), (ms, .inl (K, 889, .inl (upd (fun _ => 0) 93 4))), (mo, .inr (8, [.ref ms, .int 0, .ref mb, .int 0, .int 1, .ref mlk, .int 0, .ref mfd, .int 0, .int 0, .int 0, .int 0]))] := hD
        have hw_43 : r_42 = 1 := hw_43
        have hw_43 := hw_43.symm
        subst hw_43
        refine k_nrm (y := 1) rfl ?_
        refine lv_iload hx hb dL_law_1186 (lv_at hl 1 rfl) ?_
        refine lv_icmp_eq (tgt := 1193) hx hb dL_law_1188 (by decide) (fun _ => ?_) (fun c9 => absurd (by decide) c9)
        refine lv_iload hx hb dL_law_1193 (lv_at hl 1 rfl) ?_
        refine lv_if_ne (tgt := 1210) hx hb dL_law_1195 (by decide) (fun _ => ?_) (fun c9 => absurd c9 (by decide))
        refine lv_goto (tgt := 1479) hx hb dL_law_1210 (by decide) ?_
        exact law_end C0 (by rw [hAe]; exact hS) (lv_sub hl [2, 6] rfl) (Nat.le_of_ble_eq_true rfl) (Nat.le_of_ble_eq_true rfl)
set_option maxHeartbeats 4000000 in
set_option maxRecDepth 100000 in
theorem law_c23 {p : Program} {l : Launch} {e : Env} {s : State} {m : MethodId} {below : List Frame} {meth : Method} {c : Code} {b : Nat} {xs : Nat → Int32} (hst : l.stackTraces = false) (D : va_G) (C0 : lw_At p s m meth c b 4 xs) (hG : k_G (fun q : Nat => s.heap.size ≤ q) s s.heap) {H : Heap} {locs : List Loc} {ls : Array Slot} (h : law_I D s b H locs ls) : W p l e room_1 s m #[Value.ref b] below meth c H locs 124 2208 (lw_Z below #[Value.ref b] s) (F0 m 1213 ls []) := by
  have C1 := C0
  obtain ⟨hx, hb, hr, hml, hown, hts, hX, hbl, hlocks, hgv⟩ := C1
  have hown : s.vm.findClass RL = some m.cls := hown
  have ht : ∀ v9 ∈ wsA, v9.before #[Value.ref b] s = true := fun v9 h9 => hts v9 (wsA_tbl h9)
  have S0 : k_C p s m #[Value.ref b] c cL_law 7 RL := ⟨hx, hb, hml, hown, ht⟩
  have hbA : ¬ (fun q : Nat => s.heap.size ≤ q) b := Nat.not_le.mpr hbl
  have hA : ∀ q : Nat, s.heap.size ≤ q → (fun q : Nat => s.heap.size ≤ q) q := fun _ h9 => h9
  obtain ⟨y1, hy1⟩ : ∃ z9 : Int32, z9 = xs 1 := ⟨_, rfl⟩
  obtain ⟨y2, hy2⟩ : ∃ z9 : Int32, z9 = xs 2 := ⟨_, rfl⟩
  obtain ⟨y3, hy3⟩ : ∃ z9 : Int32, z9 = xs 3 := ⟨_, rfl⟩
  have hs0 : (upd (fun _ => 0) 93 4) 0 = 0 := rfl
  have hs51 : (upd (fun _ => 0) 93 4) 51 = 0 := rfl
  have hs93 : (upd (fun _ => 0) 93 4) 93 = 4 := rfl
  have hs94 : (upd (fun _ => 0) 93 4) 94 = 0 := rfl
  have hs125 : (upd (fun _ => 0) 93 4) 125 = 0 := rfl
  have hs126 : (upd (fun _ => 0) 93 4) 126 = 0 := rfl
  obtain ⟨w, st, la, ld, ldA, lz, lzA, me, meA, li, ln, lnA, ll, llA, lc, lcA, hi, ri, zst, zla, zld, zldA, zlz, zlzA, zme, zmeA, zli, zln, zlnA, zll, zllA, zlc, zlcA, re, rd, rdA, rl, rlA, fo, foA, bu, buA, pa, mo, ms, mb, mlk, mfd, out, rf, K, KS, KC, KL, hrf, hK, hP, hD, hS, hl⟩ := h
  have hl : lv_has ls 7 [(4, .int 0), (3, .ref out), (2, .ref mo), (1, .ref w), (0, .ref b)] := hl
  generalize hAe : (fun q : Nat => s.heap.size ≤ q) = A at hG hD hS hA hbA
  have hP : va_P D vwCl [(w, .inr (7, [.ref st, .ref hi, .ref re, .ref fo, .ref bu, .ref pa])), (st, .inr (6, [.ref la, .ref me, .ref li, .int 4, .int 0, .int 0])), (la, .inr (2, [.ref ld, .ref lz])), (lz, .inr (4, [.ref lzA, .int 0])), (mo, .inr (8, [.ref ms, .int 0, .ref mb, .int 0, .int 0, .ref mlk, .int 0, .ref mfd, .int 0, .int 0, .int 0, .int 0])), (ms, .inl (K, 889, .inl (upd (fun _ => 0) 93 4))), (out, .inl (KL, 1, .inr (.inl (fun _ => 0))))] H := hP.sub [0, 1, 2, 5, 43, 44, 48] rfl
  have hD : va_D A [(w, .inr (7, [.ref st, .ref hi, .ref re, .ref fo, .ref bu, .ref pa])), (st, .inr (6, [.ref la, .ref me, .ref li, .int 4, .int 0, .int 0])), (la, .inr (2, [.ref ld, .ref lz])), (lz, .inr (4, [.ref lzA, .int 0])), (mo, .inr (8, [.ref ms, .int 0, .ref mb, .int 0, .int 0, .ref mlk, .int 0, .ref mfd, .int 0, .int 0, .int 0, .int 0])), (ms, .inl (K, 889, .inl (upd (fun _ => 0) 93 4))), (out, .inl (KL, 1, .inr (.inl (fun _ => 0))))] := hD.sub [0, 1, 2, 5, 43, 44, 48] (by decide) rfl
  refine lv_aload_n hx hb dL_law_1213 rfl (lv_at hl 3 rfl) ?_
  refine lv_aload_n hx hb dL_law_1214 rfl (lv_at hl 4 rfl) ?_
  refine lv_iload hx hb dL_law_1215 (lv_at hl 0 rfl) ?_
  refine lv_iconst (v := 1) hx hb dL_law_1217 (by decide) ?_
  refine lv_iadd hx hb dL_law_1218 ?_
  refine k_nrm (y := 1) (by decide) ?_
  refine va_sld hx hb hX hbl hbA hS (by unfold vp_in; decide) dL_law_1219 ?_
  refine k_nrm (y := y1) (by rw [hy1]; rfl) ?_
  refine lv_aload_n hx hb dL_law_1220 rfl (lv_at hl 1 rfl) ?_
  have ct := k_cut_of (wc := [(w, .inr (7, [.ref st, .ref hi, .ref re, .ref fo, .ref bu, .ref pa])), (st, .inr (6, [.ref la, .ref me, .ref li, .int 4, .int 0, .int 0])), (la, .inr (2, [.ref ld, .ref lz])), (lz, .inr (4, [.ref lzA, .int 0])), (out, .inl (KL, 1, .inr (.inl (fun _ => 0))))]) (wr := [(mo, .inr (8, [.ref ms, .int 0, .ref mb, .int 0, .int 0, .ref mlk, .int 0, .ref mfd, .int 0, .int 0, .int 0, .int 0])), (ms, .inl (K, 889, .inl (upd (fun _ => 0) 93 4)))]) (tc := [(KL, .long)]) hG hS hA hK hP hD [0, 1, 2, 3, 6] [4, 5] [3] rfl rfl (by decide) (by decide) (by decide) rfl
  refine k_endi (As := [.ref w, .int y1, .ref out]) ct (k_runSW (As := [.ref w, .int y1, .ref out]) (rest := []) S0 Ls_L_164 ct (c_L_greatestSmudge l hst D w st hi re fo bu pa la me li 4 0 0 ld lz lzA y1 out KL (fun _ => 0) H.size) hl.1 rfl (Nat.le_of_ble_eq_true rfl) rfl dL_law_1221 ⟨⟨Nat.le_of_ble_eq_true rfl, Nat.le_of_ble_eq_true rfl⟩, Nat.le_of_ble_eq_true rfl, Nat.le_of_ble_eq_true rfl⟩) rfl rfl (fun r_1 og_2 H locs hw_3 hP hD hK hS => ?_)
  have hK : va_K D vwCl [(K, .int), (KS, .object "BarcodeWand$State"), (KC, .char), (KL, .long)] s := hK
  have hP : va_P D vwCl [(mo, .inr (8, [.ref ms, .int 0, .ref mb, .int 0, .int 0, .ref mlk, .int 0, .ref mfd, .int 0, .int 0, .int 0, .int 0])), (ms, .inl (K, 889, .inl (upd (fun _ => 0) 93 4))), (out, .inl (KL, 1, .inr (.inl og_2)))] H := hP
  have hD : va_D A [(mo, .inr (8, [.ref ms, .int 0, .ref mb, .int 0, .int 0, .ref mlk, .int 0, .ref mfd, .int 0, .int 0, .int 0, .int 0])), (ms, .inl (K, 889, .inl (upd (fun _ => 0) 93 4))), (out, .inl (KL, 1, .inr (.inl og_2)))] := hD
  have hw_3 : r_1 = 1 := hw_3
  have hw_3 := hw_3.symm
  subst hw_3
  refine k_nrm (y := 1) rfl ?_
  refine lv_istore (lv' := [(5, .int 1), (4, .int 0), (3, .ref out), (2, .ref mo), (1, .ref w), (0, .ref b)]) hx hb dL_law_1224 hl (by decide) rfl (fun ls hl => ?_)
  refine lv_aload_n hx hb dL_law_1226 rfl (lv_at hl 3 rfl) ?_
  refine lv_aload_n hx hb dL_law_1227 rfl (lv_at hl 5 rfl) ?_
  refine lv_iload hx hb dL_law_1228 (lv_at hl 1 rfl) ?_
  refine lv_iconst (v := 1) hx hb dL_law_1230 (by decide) ?_
  refine lv_iadd hx hb dL_law_1231 ?_
  refine k_nrm (y := 1) (by decide) ?_
  refine va_sld hx hb hX hbl hbA hS (by unfold vp_in; decide) dL_law_1232 ?_
  refine k_nrm (y := y1) (by rw [hy1]; rfl) ?_
  have ct := k_cut_of (wc := [(mo, .inr (8, [.ref ms, .int 0, .ref mb, .int 0, .int 0, .ref mlk, .int 0, .ref mfd, .int 0, .int 0, .int 0, .int 0])), (ms, .inl (K, 889, .inl (upd (fun _ => 0) 93 4)))]) (wr := [(out, .inl (KL, 1, .inr (.inl og_2)))]) (tc := [(K, .int)]) hG hS hA hK hP hD [0, 1] [2] [0] rfl rfl (by decide) (by decide) (by decide) rfl
  refine k_endi (As := [.ref mo, .int y1]) ct (k_runV (As := [.int y1]) (rest := []) S0 Lv_L_166 rfl (ci := 8) (q0 := 0) rfl rfl ct (c_M_greatestSmudge l D mo ms 0 mb 0 mlk 0 mfd 0 0 0 0 K (upd (fun _ => 0) 93 4) y1 (by first | assumption | exact (cpf_lo (by decide)).trans (by assumption)) (by first | assumption | exact (cpf_lo (by decide)).trans (by assumption)) (by first | assumption | exact (cpf_lo (by decide)).trans (by assumption)) (by first | assumption | exact (cpf_lo (by decide)).trans (by assumption)) (by first | assumption | exact (cpf_lo (by decide)).trans (by assumption)) (by first | assumption | exact (cpf_lo (by decide)).trans (by assumption)) H.size) hl.1 rfl (Nat.le_of_ble_eq_true rfl) rfl dL_law_1233 ⟨⟨Nat.le_of_ble_eq_true rfl, Nat.le_of_ble_eq_true rfl⟩, Nat.le_of_ble_eq_true rfl, Nat.le_of_ble_eq_true rfl⟩) rfl rfl (fun r_4 _ H locs hw_5 hP hD hK hS => ?_)
  have hK : va_K D vwCl [(K, .int), (KS, .object "BarcodeWand$State"), (KC, .char), (KL, .long)] s := hK
  have hP : va_P D vwCl [(out, .inl (KL, 1, .inr (.inl og_2))), (mo, .inr (8, [.ref ms, .int 0, .ref mb, .int 0, .int 1, .ref mlk, .int 0, .ref mfd, .int 0, .int 0, .int 0, .int 0])), (ms, .inl (K, 889, .inl (upd (fun _ => 0) 93 4)))] H := hP
  have hD : va_D A [(out, .inl (KL, 1, .inr (.inl og_2))), (mo, .inr (8, [.ref ms, .int 0, .ref mb, .int 0, .int 1, .ref mlk, .int 0, .ref mfd, .int 0, .int 0, .int 0, .int 0])), (ms, .inl (K, 889, .inl (upd (fun _ => 0) 93 4)))] := hD
  have hw_5 : r_4 = 0 := hw_5
  have hw_5 := hw_5.symm
  subst hw_5
  refine k_nrm (y := 0) rfl ?_
  refine lv_istore (lv' := [(6, .int 0), (5, .int 1), (4, .int 0), (3, .ref out), (2, .ref mo), (1, .ref w), (0, .ref b)]) hx hb dL_law_1236 hl (by decide) rfl (fun ls hl => ?_)
  refine lv_aload_n hx hb dL_law_1238 rfl (lv_at hl 4 rfl) ?_
  have ct := k_cut_of (wc := [(mo, .inr (8, [.ref ms, .int 0, .ref mb, .int 0, .int 1, .ref mlk, .int 0, .ref mfd, .int 0, .int 0, .int 0, .int 0]))]) (wr := [(out, .inl (KL, 1, .inr (.inl og_2))), (ms, .inl (K, 889, .inl (upd (fun _ => 0) 93 4)))]) (tc := []) hG hS hA hK hP hD [1] [0, 2] [] rfl rfl (by decide) (by decide) (by decide) rfl
  refine k_endi (As := [.ref mo]) ct (k_runV (As := []) (rest := []) S0 Lv_L_83 rfl (ci := 8) (q0 := 0) rfl rfl ct (c_M_thrown2 l D mo ms 0 mb 0 1 mlk 0 mfd 0 0 0 0 H.size) hl.1 rfl (Nat.le_of_ble_eq_true rfl) rfl dL_law_1239 ⟨⟨Nat.le_of_ble_eq_true rfl, Nat.le_of_ble_eq_true rfl⟩, Nat.le_of_ble_eq_true rfl, Nat.le_of_ble_eq_true rfl⟩) rfl rfl (fun r_6 _ H locs hw_7 hP hD hK hS => ?_)
  have hK : va_K D vwCl [(K, .int), (KS, .object "BarcodeWand$State"), (KC, .char), (KL, .long)] s := hK
  have hP : va_P D vwCl [(out, .inl (KL, 1, .inr (.inl og_2))), (ms, .inl (K, 889, .inl (upd (fun _ => 0) 93 4))), (mo, .inr (8, [.ref ms, .int 0, .ref mb, .int 0, .int 1, .ref mlk, .int 0, .ref mfd, .int 0, .int 0, .int 0, .int 0]))] H := hP
  have hD : va_D A [(out, .inl (KL, 1, .inr (.inl og_2))), (ms, .inl (K, 889, .inl (upd (fun _ => 0) 93 4))), (mo, .inr (8, [.ref ms, .int 0, .ref mb, .int 0, .int 1, .ref mlk, .int 0, .ref mfd, .int 0, .int 0, .int 0, .int 0]))] := hD
  have hw_7 : r_6 = 1 := hw_7
  have hw_7 := hw_7.symm
  subst hw_7
  refine k_nrm (y := 1) rfl ?_
  refine lv_iload hx hb dL_law_1242 (lv_at hl 1 rfl) ?_
  refine lv_icmp_eq (tgt := 1249) hx hb dL_law_1244 (by decide) (fun _ => ?_) (fun c9 => absurd (by decide) c9)
  refine lv_iload hx hb dL_law_1249 (lv_at hl 1 rfl) ?_
  refine lv_if_ne (tgt := 1266) hx hb dL_law_1251 (by decide) (fun _ => ?_) (fun c9 => absurd c9 (by decide))
  refine lv_goto (tgt := 1479) hx hb dL_law_1266 (by decide) ?_
  exact law_end C0 (by rw [hAe]; exact hS) (lv_sub hl [2, 6] rfl) (Nat.le_of_ble_eq_true rfl) (Nat.le_of_ble_eq_true rfl)
