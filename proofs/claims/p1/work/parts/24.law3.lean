
set_option maxHeartbeats 4000000 in
set_option maxRecDepth 100000 in
theorem law_c8 {p : Program} {l : Launch} {e : Env} {s : State} {m : MethodId} {below : List Frame} {meth : Method} {c : Code} {b : Nat} {xs : Nat → Int32} (hst : l.stackTraces = false) (D : va_G) (C0 : lw_At p s m meth c b 4 xs) (hG : k_G (fun q : Nat => s.heap.size ≤ q) s s.heap) {H : Heap} {locs : List Loc} {ls : Array Slot} (h : law_I D s b H locs ls) : W p l e room_1 s m #[Value.ref b] below meth c H locs 124 2208 (lw_Z below #[Value.ref b] s) (F0 m 606 ls []) := by
  have C1 := C0
  obtain ⟨hx, hb, hr, hml, hown, hts, hX, hbl, hlocks, hgv⟩ := C1
  have hown : s.vm.findClass RL = some m.cls := hown
  have ht : ∀ v9 ∈ wsA, v9.before #[Value.ref b] s = true := fun v9 h9 => hts v9 (wsA_tbl h9)
  have S0 : k_C p s m #[Value.ref b] c cL_law 7 RL := ⟨hx, hb, hml, hown, ht⟩
  have hbA : ¬ (fun q : Nat => s.heap.size ≤ q) b := Nat.not_le.mpr hbl
  have hA : ∀ q : Nat, s.heap.size ≤ q → (fun q : Nat => s.heap.size ≤ q) q := fun _ h9 => h9
  obtain ⟨y1, hy1⟩ : ∃ z9 : Int32, z9 = xs 1 := ⟨_, rfl⟩
  obtain ⟨y2, hy2⟩ : ∃ z9 : Int32, z9 = xs 2 := ⟨_, rfl⟩
  obtain ⟨y3, hy3⟩ : ∃ z9 : Int32, z9 = xs 3 := ⟨_, rfl⟩
  have hs0 : (upd (fun _ => 0) 93 4) 0 = 0 := rfl
  have hs51 : (upd (fun _ => 0) 93 4) 51 = 0 := rfl
  have hs93 : (upd (fun _ => 0) 93 4) 93 = 4 := rfl
  have hs94 : (upd (fun _ => 0) 93 4) 94 = 0 := rfl
  have hs125 : (upd (fun _ => 0) 93 4) 125 = 0 := rfl
  have hs126 : (upd (fun _ => 0) 93 4) 126 = 0 := rfl
  obtain ⟨w, st, la, ld, ldA, lz, lzA, me, meA, li, ln, lnA, ll, llA, lc, lcA, hi, ri, zst, zla, zld, zldA, zlz, zlzA, zme, zmeA, zli, zln, zlnA, zll, zllA, zlc, zlcA, re, rd, rdA, rl, rlA, fo, foA, bu, buA, pa, mo, ms, mb, mlk, mfd, out, rf, K, KS, KC, KL, hrf, hK, hP, hD, hS, hl⟩ := h
  have hl : lv_has ls 7 [(4, .int 0), (3, .ref out), (2, .ref mo), (1, .ref w), (0, .ref b)] := hl
  generalize hAe : (fun q : Nat => s.heap.size ≤ q) = A at hG hD hS hA hbA
  have hP : va_P D vwCl [(w, .inr (7, [.ref st, .ref hi, .ref re, .ref fo, .ref bu, .ref pa])), (st, .inr (6, [.ref la, .ref me, .ref li, .int 4, .int 0, .int 0])), (la, .inr (2, [.ref ld, .ref lz])), (ld, .inr (4, [.ref ldA, .int 0])), (lz, .inr (4, [.ref lzA, .int 0])), (me, .inr (4, [.ref meA, .int 0])), (li, .inr (0, [.ref ln, .ref ll, .ref lc])), (ln, .inr (4, [.ref lnA, .int 0])), (ll, .inr (4, [.ref llA, .int 0])), (lc, .inr (4, [.ref lcA, .int 0])), (hi, .inr (5, [.ref ri, .int 0, .int 0])), (ri, .inl (KS, 6, .inr (.inr (.inr (.inr rf))))), (zst, .inr (6, [.ref zla, .ref zme, .ref zli, .int 4, .int 0, .int 0])), (zla, .inr (2, [.ref zld, .ref zlz])), (zld, .inr (4, [.ref zldA, .int 0])), (zlz, .inr (4, [.ref zlzA, .int 0])), (zme, .inr (4, [.ref zmeA, .int 0])), (zli, .inr (0, [.ref zln, .ref zll, .ref zlc])), (zln, .inr (4, [.ref zlnA, .int 0])), (zll, .inr (4, [.ref zllA, .int 0])), (zlc, .inr (4, [.ref zlcA, .int 0])), (re, .inr (3, [.ref rd, .int 0, .ref rl, .int 0, .int 0, .int 0, .int 0, .int 0])), (rd, .inr (4, [.ref rdA, .int 0])), (rl, .inr (4, [.ref rlA, .int 0])), (mo, .inr (8, [.ref ms, .int 0, .ref mb, .int 0, .int 0, .ref mlk, .int 0, .ref mfd, .int 0, .int 0, .int 0, .int 0])), (ms, .inl (K, 889, .inl (upd (fun _ => 0) 93 4)))] H := hP.sub [0, 1, 2, 3, 5, 7, 9, 10, 12, 14, 16, 17, 18, 19, 20, 22, 24, 26, 27, 29, 31, 33, 34, 36, 43, 44] rfl
  have hD : va_D A [(w, .inr (7, [.ref st, .ref hi, .ref re, .ref fo, .ref bu, .ref pa])), (st, .inr (6, [.ref la, .ref me, .ref li, .int 4, .int 0, .int 0])), (la, .inr (2, [.ref ld, .ref lz])), (ld, .inr (4, [.ref ldA, .int 0])), (lz, .inr (4, [.ref lzA, .int 0])), (me, .inr (4, [.ref meA, .int 0])), (li, .inr (0, [.ref ln, .ref ll, .ref lc])), (ln, .inr (4, [.ref lnA, .int 0])), (ll, .inr (4, [.ref llA, .int 0])), (lc, .inr (4, [.ref lcA, .int 0])), (hi, .inr (5, [.ref ri, .int 0, .int 0])), (ri, .inl (KS, 6, .inr (.inr (.inr (.inr rf))))), (zst, .inr (6, [.ref zla, .ref zme, .ref zli, .int 4, .int 0, .int 0])), (zla, .inr (2, [.ref zld, .ref zlz])), (zld, .inr (4, [.ref zldA, .int 0])), (zlz, .inr (4, [.ref zlzA, .int 0])), (zme, .inr (4, [.ref zmeA, .int 0])), (zli, .inr (0, [.ref zln, .ref zll, .ref zlc])), (zln, .inr (4, [.ref zlnA, .int 0])), (zll, .inr (4, [.ref zllA, .int 0])), (zlc, .inr (4, [.ref zlcA, .int 0])), (re, .inr (3, [.ref rd, .int 0, .ref rl, .int 0, .int 0, .int 0, .int 0, .int 0])), (rd, .inr (4, [.ref rdA, .int 0])), (rl, .inr (4, [.ref rlA, .int 0])), (mo, .inr (8, [.ref ms, .int 0, .ref mb, .int 0, .int 0, .ref mlk, .int 0, .ref mfd, .int 0, .int 0, .int 0, .int 0])), (ms, .inl (K, 889, .inl (upd (fun _ => 0) 93 4)))] := hD.sub [0, 1, 2, 3, 5, 7, 9, 10, 12, 14, 16, 17, 18, 19, 20, 22, 24, 26, 27, 29, 31, 33, 34, 36, 43, 44] (by decide) rfl
  refine lv_aload_n hx hb dL_law_606 rfl (lv_at hl 3 rfl) ?_
  have ct := k_cut_of (wc := [(w, .inr (7, [.ref st, .ref hi, .ref re, .ref fo, .ref bu, .ref pa])), (hi, .inr (5, [.ref ri, .int 0, .int 0])), (ri, .inl (KS, 6, .inr (.inr (.inr (.inr rf))))), (zst, .inr (6, [.ref zla, .ref zme, .ref zli, .int 4, .int 0, .int 0])), (zla, .inr (2, [.ref zld, .ref zlz])), (zld, .inr (4, [.ref zldA, .int 0])), (zlz, .inr (4, [.ref zlzA, .int 0])), (zme, .inr (4, [.ref zmeA, .int 0])), (zli, .inr (0, [.ref zln, .ref zll, .ref zlc])), (zln, .inr (4, [.ref zlnA, .int 0])), (zll, .inr (4, [.ref zllA, .int 0])), (zlc, .inr (4, [.ref zlcA, .int 0])), (st, .inr (6, [.ref la, .ref me, .ref li, .int 4, .int 0, .int 0])), (la, .inr (2, [.ref ld, .ref lz])), (ld, .inr (4, [.ref ldA, .int 0])), (lz, .inr (4, [.ref lzA, .int 0])), (me, .inr (4, [.ref meA, .int 0])), (li, .inr (0, [.ref ln, .ref ll, .ref lc])), (ln, .inr (4, [.ref lnA, .int 0])), (ll, .inr (4, [.ref llA, .int 0])), (lc, .inr (4, [.ref lcA, .int 0])), (re, .inr (3, [.ref rd, .int 0, .ref rl, .int 0, .int 0, .int 0, .int 0, .int 0])), (rd, .inr (4, [.ref rdA, .int 0])), (rl, .inr (4, [.ref rlA, .int 0]))]) (wr := [(mo, .inr (8, [.ref ms, .int 0, .ref mb, .int 0, .int 0, .ref mlk, .int 0, .ref mfd, .int 0, .int 0, .int 0, .int 0])), (ms, .inl (K, 889, .inl (upd (fun _ => 0) 93 4)))]) (tc := [(KS, .object "BarcodeWand$State")]) hG hS hA hK hP hD [0, 10, 11, 12, 13, 14, 15, 16, 17, 18, 19, 20, 1, 2, 3, 4, 5, 6, 7, 8, 9, 21, 22, 23] [24, 25] [1] rfl rfl (by decide) (by decide) (by decide) rfl
  refine k_endi (As := [.ref w]) ct (k_runV (As := []) (rest := []) S0 Lv_L_111 rfl (ci := 7) (q0 := 0) rfl rfl ct (c_W_read l D w st hi re fo bu pa ri KS rf zst zla zme zli 4 0 0 zld zlz zldA 0 zlzA 0 zmeA 0 zln zll zlc zlnA 0 zllA 0 zlcA 0 la me li 4 0 0 ld lz ldA lzA meA ln ll lc lnA llA lcA rd 0 rl 0 0 0 0 0 rdA 0 rlA 0 (by assumption) H.size) hl.1 rfl (Nat.le_of_ble_eq_true rfl) rfl dL_law_607 ⟨⟨Nat.le_of_ble_eq_true rfl, Nat.le_of_ble_eq_true rfl⟩, Nat.le_of_ble_eq_true rfl, Nat.le_of_ble_eq_true rfl⟩) rfl rfl (fun r_1 fb_2 H locs hw_3 hP hD hK hS => ?_)
  have hK : va_K D vwCl [(K, .int), (KS, .object "BarcodeWand$State"), (KC, .char), (KL, .long)] s := hK
  have hP : va_P D vwCl [(mo, .inr (8, [.ref ms, .int 0, .ref mb, .int 0, .int 0, .ref mlk, .int 0, .ref mfd, .int 0, .int 0, .int 0, .int 0])), (ms, .inl (K, 889, .inl (upd (fun _ => 0) 93 4))), (w, .inr (7, [.ref st, .ref hi, .ref re, .ref fo, .ref bu, .ref pa])), (hi, .inr (5, [.ref ri, .int 1, .int 1])), (ri, .inl (KS, 6, .inr (.inr (.inr (.inr rf))))), (zst, .inr (6, [.ref zla, .ref zme, .ref zli, .int 4, .int 0, .int 0])), (zla, .inr (2, [.ref zld, .ref zlz])), (zld, .inr (4, [.ref zldA, .int 0])), (zlz, .inr (4, [.ref zlzA, .int 0])), (zme, .inr (4, [.ref zmeA, .int 0])), (zli, .inr (0, [.ref zln, .ref zll, .ref zlc])), (zln, .inr (4, [.ref zlnA, .int 0])), (zll, .inr (4, [.ref zllA, .int 0])), (zlc, .inr (4, [.ref zlcA, .int 0])), (st, .inr (6, [.ref la, .ref me, .ref li, .int 4, .int 0, .int fb_2])), (la, .inr (2, [.ref ld, .ref lz])), (ld, .inr (4, [.ref ldA, .int 0])), (lz, .inr (4, [.ref lzA, .int 0])), (me, .inr (4, [.ref meA, .int 0])), (li, .inr (0, [.ref ln, .ref ll, .ref lc])), (ln, .inr (4, [.ref lnA, .int 0])), (ll, .inr (4, [.ref llA, .int 0])), (lc, .inr (4, [.ref lcA, .int 0])), (re, .inr (3, [.ref rd, .int 0, .ref rl, .int 0, .int 0, .int 0, .int 0, .int 0])), (rd, .inr (4, [.ref rdA, .int 0])), (rl, .inr (4, [.ref rlA, .int 0]))] H := hP
  have hD : va_D A [(mo, .inr (8, [.ref ms, .int 0, .ref mb, .int 0, .int 0, .ref mlk, .int 0, .ref mfd, .int 0, .int 0, .int 0, .int 0])), (ms, .inl (K, 889, .inl (upd (fun _ => 0) 93 4))), (w, .inr (7, [.ref st, .ref hi, .ref re, .ref fo, .ref bu, .ref pa])), (hi, .inr (5, [.ref ri, .int 1, .int 1])), (ri, .inl (KS, 6, .inr (.inr (.inr (.inr rf))))), (zst, .inr (6, [.ref zla, .ref zme, .ref zli, .int 4, .int 0, .int 0])), (zla, .inr (2, [.ref zld, .ref zlz])), (zld, .inr (4, [.ref zldA, .int 0])), (zlz, .inr (4, [.ref zlzA, .int 0])), (zme, .inr (4, [.ref zmeA, .int 0])), (zli, .inr (0, [.ref zln, .ref zll, .ref zlc])), (zln, .inr (4, [.ref zlnA, .int 0])), (zll, .inr (4, [.ref zllA, .int 0])), (zlc, .inr (4, [.ref zlcA, .int 0])), (st, .inr (6, [.ref la, .ref me, .ref li, .int 4, .int 0, .int fb_2])), (la, .inr (2, [.ref ld, .ref lz])), (ld, .inr (4, [.ref ldA, .int 0])), (lz, .inr (4, [.ref lzA, .int 0])), (me, .inr (4, [.ref meA, .int 0])), (li, .inr (0, [.ref ln, .ref ll, .ref lc])), (ln, .inr (4, [.ref lnA, .int 0])), (ll, .inr (4, [.ref llA, .int 0])), (lc, .inr (4, [.ref lcA, .int 0])), (re, .inr (3, [.ref rd, .int 0, .ref rl, .int 0, .int 0, .int 0, .int 0, .int 0])), (rd, .inr (4, [.ref rdA, .int 0])), (rl, .inr (4, [.ref rlA, .int 0]))] := hD
  have hw_3 : r_1 = 1 := hw_3
  have hw_3 := hw_3.symm
  subst hw_3
  refine k_nrm (y := 1) rfl ?_
  refine lv_aload_n hx hb dL_law_610 rfl (lv_at hl 2 rfl) ?_
  have ct := k_cut_of (wc := [(mo, .inr (8, [.ref ms, .int 0, .ref mb, .int 0, .int 0, .ref mlk, .int 0, .ref mfd, .int 0, .int 0, .int 0, .int 0])), (ms, .inl (K, 889, .inl (upd (fun _ => 0) 93 4)))]) (wr := [(w, .inr (7, [.ref st, .ref hi, .ref re, .ref fo, .ref bu, .ref pa])), (hi, .inr (5, [.ref ri, .int 1, .int 1])), (ri, .inl (KS, 6, .inr (.inr (.inr (.inr rf))))), (zst, .inr (6, [.ref zla, .ref zme, .ref zli, .int 4, .int 0, .int 0])), (zla, .inr (2, [.ref zld, .ref zlz])), (zld, .inr (4, [.ref zldA, .int 0])), (zlz, .inr (4, [.ref zlzA, .int 0])), (zme, .inr (4, [.ref zmeA, .int 0])), (zli, .inr (0, [.ref zln, .ref zll, .ref zlc])), (zln, .inr (4, [.ref zlnA, .int 0])), (zll, .inr (4, [.ref zllA, .int 0])), (zlc, .inr (4, [.ref zlcA, .int 0])), (st, .inr (6, [.ref la, .ref me, .ref li, .int 4, .int 0, .int fb_2])), (la, .inr (2, [.ref ld, .ref lz])), (ld, .inr (4, [.ref ldA, .int 0])), (lz, .inr (4, [.ref lzA, .int 0])), (me, .inr (4, [.ref meA, .int 0])), (li, .inr (0, [.ref ln, .ref ll, .ref lc])), (ln, .inr (4, [.ref lnA, .int 0])), (ll, .inr (4, [.ref llA, .int 0])), (lc, .inr (4, [.ref lcA, .int 0])), (re, .inr (3, [.ref rd, .int 0, .ref rl, .int 0, .int 0, .int 0, .int 0, .int 0])), (rd, .inr (4, [.ref rdA, .int 0])), (rl, .inr (4, [.ref rlA, .int 0]))]) (tc := [(K, .int)]) hG hS hA hK hP hD [0, 1] [2, 3, 4, 5, 6, 7, 8, 9, 10, 11, 12, 13, 14, 15, 16, 17, 18, 19, 20, 21, 22, 23, 24, 25] [0] rfl rfl (by decide) (by decide) (by decide) rfl
  refine k_endi (As := [.ref mo]) ct (k_runV (As := []) (rest := [.int 1]) S0 Lv_L_114 rfl (ci := 8) (q0 := 0) rfl rfl ct (c_M_read l D mo ms mb 0 mlk 0 mfd 0 0 0 0 K (upd (fun _ => 0) 93 4) (by first | assumption | exact (cpf_lo (by decide)).trans (by assumption)) (by first | assumption | exact (cpf_lo (by decide)).trans (by assumption)) (by first | assumption | exact (cpf_lo (by decide)).trans (by assumption)) (by first | assumption | exact (cpf_lo (by decide)).trans (by assumption)) (by first | assumption | exact (cpf_lo (by decide)).trans (by assumption)) (by first | assumption | exact (cpf_lo (by decide)).trans (by assumption)) H.size) hl.1 rfl (Nat.le_of_ble_eq_true rfl) rfl dL_law_611 ⟨⟨Nat.le_of_ble_eq_true rfl, Nat.le_of_ble_eq_true rfl⟩, Nat.le_of_ble_eq_true rfl, Nat.le_of_ble_eq_true rfl⟩) rfl rfl (fun r_4 sg_5 H locs hw_6 hP hD hK hS => ?_)
  have hK : va_K D vwCl [(K, .int), (KS, .object "BarcodeWand$State"), (KC, .char), (KL, .long)] s := hK
  have hP : va_P D vwCl [(w, .inr (7, [.ref st, .ref hi, .ref re, .ref fo, .ref bu, .ref pa])), (hi, .inr (5, [.ref ri, .int 1, .int 1])), (ri, .inl (KS, 6, .inr (.inr (.inr (.inr rf))))), (zst, .inr (6, [.ref zla, .ref zme, .ref zli, .int 4, .int 0, .int 0])), (zla, .inr (2, [.ref zld, .ref zlz])), (zld, .inr (4, [.ref zldA, .int 0])), (zlz, .inr (4, [.ref zlzA, .int 0])), (zme, .inr (4, [.ref zmeA, .int 0])), (zli, .inr (0, [.ref zln, .ref zll, .ref zlc])), (zln, .inr (4, [.ref zlnA, .int 0])), (zll, .inr (4, [.ref zllA, .int 0])), (zlc, .inr (4, [.ref zlcA, .int 0])), (st, .inr (6, [.ref la, .ref me, .ref li, .int 4, .int 0, .int fb_2])), (la, .inr (2, [.ref ld, .ref lz])), (ld, .inr (4, [.ref ldA, .int 0])), (lz, .inr (4, [.ref lzA, .int 0])), (me, .inr (4, [.ref meA, .int 0])), (li, .inr (0, [.ref ln, .ref ll, .ref lc])), (ln, .inr (4, [.ref lnA, .int 0])), (ll, .inr (4, [.ref llA, .int 0])), (lc, .inr (4, [.ref lcA, .int 0])), (re, .inr (3, [.ref rd, .int 0, .ref rl, .int 0, .int 0, .int 0, .int 0, .int 0])), (rd, .inr (4, [.ref rdA, .int 0])), (rl, .inr (4, [.ref rlA, .int 0])), (mo, .inr (8, [.ref ms, .int 1, .ref mb, .int 0, .int 0, .ref mlk, .int 0, .ref mfd, .int (-1), .int 0, .int 0, .int 0])), (ms, .inl (K, 889, .inl sg_5))] H := hP
  have hD : va_D A [(w, .inr (7, [.ref st, .ref hi, .ref re, .ref fo, .ref bu, .ref pa])), (hi, .inr (5, [.ref ri, .int 1, .int 1])), (ri, .inl (KS, 6, .inr (.inr (.inr (.inr rf))))), (zst, .inr (6, [.ref zla, .ref zme, .ref zli, .int 4, .int 0, .int 0])), (zla, .inr (2, [.ref zld, .ref zlz])), (zld, .inr (4, [.ref zldA, .int 0])), (zlz, .inr (4, [.ref zlzA, .int 0])), (zme, .inr (4, [.ref zmeA, .int 0])), (zli, .inr (0, [.ref zln, .ref zll, .ref zlc])), (zln, .inr (4, [.ref zlnA, .int 0])), (zll, .inr (4, [.ref zllA, .int 0])), (zlc, .inr (4, [.ref zlcA, .int 0])), (st, .inr (6, [.ref la, .ref me, .ref li, .int 4, .int 0, .int fb_2])), (la, .inr (2, [.ref ld, .ref lz])), (ld, .inr (4, [.ref ldA, .int 0])), (lz, .inr (4, [.ref lzA, .int 0])), (me, .inr (4, [.ref meA, .int 0])), (li, .inr (0, [.ref ln, .ref ll, .ref lc])), (ln, .inr (4, [.ref lnA, .int 0])), (ll, .inr (4, [.ref llA, .int 0])), (lc, .inr (4, [.ref lcA, .int 0])), (re, .inr (3, [.ref rd, .int 0, .ref rl, .int 0, .int 0, .int 0, .int 0, .int 0])), (rd, .inr (4, [.ref rdA, .int 0])), (rl, .inr (4, [.ref rlA, .int 0])), (mo, .inr (8, [.ref ms, .int 1, .ref mb, .int 0, .int 0, .ref mlk, .int 0, .ref mfd, .int (-1), .int 0, .int 0, .int 0])), (ms, .inl (K, 889, .inl sg_5))] := hD
  have hw_6 : r_4 = 1 := hw_6
  have hw_6 := hw_6.symm
  subst hw_6
  refine k_nrm (y := 1) rfl ?_
  refine lv_icmp_eq (tgt := 1479) hx hb dL_law_614 (by decide) (fun _ => ?_) (fun c9 => absurd (by decide) c9)
  exact law_end C0 (by rw [hAe]; exact hS) (lv_sub hl [0, 4] rfl) (Nat.le_of_ble_eq_true rfl) (Nat.le_of_ble_eq_true rfl)
set_option maxHeartbeats 4000000 in
set_option maxRecDepth 100000 in
theorem law_c9 {p : Program} {l : Launch} {e : Env} {s : State} {m : MethodId} {below : List Frame} {meth : Method} {c : Code} {b : Nat} {xs : Nat → Int32} (hst : l.stackTraces = false) (D : va_G) (C0 : lw_At p s m meth c b 4 xs) (hG : k_G (fun q : Nat => s.heap.size ≤ q) s s.heap) {H : Heap} {locs : List Loc} {ls : Array Slot} (h : law_I D s b H locs ls) : W p l e room_1 s m #[Value.ref b] below meth c H locs 124 2208 (lw_Z below #[Value.ref b] s) (F0 m 619 ls []) := by
  have C1 := C0
  obtain ⟨hx, hb, hr, hml, hown, hts, hX, hbl, hlocks, hgv⟩ := C1
  have hown : s.vm.findClass RL = some m.cls := hown
  have ht : ∀ v9 ∈ wsA, v9.before #[Value.ref b] s = true := fun v9 h9 => hts v9 (wsA_tbl h9)
  have S0 : k_C p s m #[Value.ref b] c cL_law 7 RL := ⟨hx, hb, hml, hown, ht⟩
  have hbA : ¬ (fun q : Nat => s.heap.size ≤ q) b := Nat.not_le.mpr hbl
  have hA : ∀ q : Nat, s.heap.size ≤ q → (fun q : Nat => s.heap.size ≤ q) q := fun _ h9 => h9
  obtain ⟨y1, hy1⟩ : ∃ z9 : Int32, z9 = xs 1 := ⟨_, rfl⟩
  obtain ⟨y2, hy2⟩ : ∃ z9 : Int32, z9 = xs 2 := ⟨_, rfl⟩
  obtain ⟨y3, hy3⟩ : ∃ z9 : Int32, z9 = xs 3 := ⟨_, rfl⟩
  have hs0 : (upd (fun _ => 0) 93 4) 0 = 0 := rfl
  have hs51 : (upd (fun _ => 0) 93 4) 51 = 0 := rfl
  have hs93 : (upd (fun _ => 0) 93 4) 93 = 4 := rfl
  have hs94 : (upd (fun _ => 0) 93 4) 94 = 0 := rfl
  have hs125 : (upd (fun _ => 0) 93 4) 125 = 0 := rfl
  have hs126 : (upd (fun _ => 0) 93 4) 126 = 0 := rfl
  obtain ⟨w, st, la, ld, ldA, lz, lzA, me, meA, li, ln, lnA, ll, llA, lc, lcA, hi, ri, zst, zla, zld, zldA, zlz, zlzA, zme, zmeA, zli, zln, zlnA, zll, zllA, zlc, zlcA, re, rd, rdA, rl, rlA, fo, foA, bu, buA, pa, mo, ms, mb, mlk, mfd, out, rf, K, KS, KC, KL, hrf, hK, hP, hD, hS, hl⟩ := h
  have hl : lv_has ls 7 [(4, .int 0), (3, .ref out), (2, .ref mo), (1, .ref w), (0, .ref b)] := hl
  generalize hAe : (fun q : Nat => s.heap.size ≤ q) = A at hG hD hS hA hbA
  have hP : va_P D vwCl [(w, .inr (7, [.ref st, .ref hi, .ref re, .ref fo, .ref bu, .ref pa])), (st, .inr (6, [.ref la, .ref me, .ref li, .int 4, .int 0, .int 0])), (me, .inr (4, [.ref meA, .int 0])), (mo, .inr (8, [.ref ms, .int 0, .ref mb, .int 0, .int 0, .ref mlk, .int 0, .ref mfd, .int 0, .int 0, .int 0, .int 0])), (ms, .inl (K, 889, .inl (upd (fun _ => 0) 93 4)))] H := hP.sub [0, 1, 7, 43, 44] rfl
  have hD : va_D A [(w, .inr (7, [.ref st, .ref hi, .ref re, .ref fo, .ref bu, .ref pa])), (st, .inr (6, [.ref la, .ref me, .ref li, .int 4, .int 0, .int 0])), (me, .inr (4, [.ref meA, .int 0])), (mo, .inr (8, [.ref ms, .int 0, .ref mb, .int 0, .int 0, .ref mlk, .int 0, .ref mfd, .int 0, .int 0, .int 0, .int 0])), (ms, .inl (K, 889, .inl (upd (fun _ => 0) 93 4)))] := hD.sub [0, 1, 7, 43, 44] (by decide) rfl
  refine lv_aload_n hx hb dL_law_619 rfl (lv_at hl 3 rfl) ?_
  have ct := k_cut_of (wc := [(w, .inr (7, [.ref st, .ref hi, .ref re, .ref fo, .ref bu, .ref pa])), (st, .inr (6, [.ref la, .ref me, .ref li, .int 4, .int 0, .int 0])), (me, .inr (4, [.ref meA, .int 0]))]) (wr := [(mo, .inr (8, [.ref ms, .int 0, .ref mb, .int 0, .int 0, .ref mlk, .int 0, .ref mfd, .int 0, .int 0, .int 0, .int 0])), (ms, .inl (K, 889, .inl (upd (fun _ => 0) 93 4)))]) (tc := []) hG hS hA hK hP hD [0, 1, 2] [3, 4] [] rfl rfl (by decide) (by decide) (by decide) rfl
  refine k_endi (As := [.ref w]) ct (k_runV (As := []) (rest := []) S0 Lv_L_115 rfl (ci := 7) (q0 := 0) rfl rfl ct (c_W_times l D w st hi re fo bu pa la me li 4 0 0 meA H.size) hl.1 rfl (Nat.le_of_ble_eq_true rfl) rfl dL_law_620 ⟨⟨Nat.le_of_ble_eq_true rfl, Nat.le_of_ble_eq_true rfl⟩, Nat.le_of_ble_eq_true rfl, Nat.le_of_ble_eq_true rfl⟩) rfl rfl (fun r_1 _ H locs hw_2 hP hD hK hS => ?_)
  have hK : va_K D vwCl [(K, .int), (KS, .object "BarcodeWand$State"), (KC, .char), (KL, .long)] s := hK
  have hP : va_P D vwCl [(mo, .inr (8, [.ref ms, .int 0, .ref mb, .int 0, .int 0, .ref mlk, .int 0, .ref mfd, .int 0, .int 0, .int 0, .int 0])), (ms, .inl (K, 889, .inl (upd (fun _ => 0) 93 4))), (w, .inr (7, [.ref st, .ref hi, .ref re, .ref fo, .ref bu, .ref pa])), (st, .inr (6, [.ref la, .ref me, .ref li, .int 4, .int 0, .int 0])), (me, .inr (4, [.ref meA, .int 0]))] H := hP
  have hD : va_D A [(mo, .inr (8, [.ref ms, .int 0, .ref mb, .int 0, .int 0, .ref mlk, .int 0, .ref mfd, .int 0, .int 0, .int 0, .int 0])), (ms, .inl (K, 889, .inl (upd (fun _ => 0) 93 4))), (w, .inr (7, [.ref st, .ref hi, .ref re, .ref fo, .ref bu, .ref pa])), (st, .inr (6, [.ref la, .ref me, .ref li, .int 4, .int 0, .int 0])), (me, .inr (4, [.ref meA, .int 0]))] := hD
  have hw_2 : r_1 = 0 := hw_2
  have hw_2 := hw_2.symm
  subst hw_2
  refine k_nrm (y := 0) rfl ?_
  refine lv_aload_n hx hb dL_law_623 rfl (lv_at hl 2 rfl) ?_
  have ct := k_cut_of (wc := [(mo, .inr (8, [.ref ms, .int 0, .ref mb, .int 0, .int 0, .ref mlk, .int 0, .ref mfd, .int 0, .int 0, .int 0, .int 0])), (ms, .inl (K, 889, .inl (upd (fun _ => 0) 93 4)))]) (wr := [(w, .inr (7, [.ref st, .ref hi, .ref re, .ref fo, .ref bu, .ref pa])), (st, .inr (6, [.ref la, .ref me, .ref li, .int 4, .int 0, .int 0])), (me, .inr (4, [.ref meA, .int 0]))]) (tc := [(K, .int)]) hG hS hA hK hP hD [0, 1] [2, 3, 4] [0] rfl rfl (by decide) (by decide) (by decide) rfl
  refine k_endi (As := [.ref mo]) ct (k_runV (As := []) (rest := [.int 0]) S0 Lv_L_118 rfl (ci := 8) (q0 := 0) rfl rfl ct (c_M_times l D mo ms 0 mb 0 mlk 0 mfd 0 0 0 0 K (upd (fun _ => 0) 93 4) (by first | assumption | exact (cpf_lo (by decide)).trans (by assumption)) (by first | assumption | exact (cpf_lo (by decide)).trans (by assumption)) (by first | assumption | exact (cpf_lo (by decide)).trans (by assumption)) (by first | assumption | exact (cpf_lo (by decide)).trans (by assumption)) (by first | assumption | exact (cpf_lo (by decide)).trans (by assumption)) (by first | assumption | exact (cpf_lo (by decide)).trans (by assumption)) H.size) hl.1 rfl (Nat.le_of_ble_eq_true rfl) rfl dL_law_624 ⟨⟨Nat.le_of_ble_eq_true rfl, Nat.le_of_ble_eq_true rfl⟩, Nat.le_of_ble_eq_true rfl, Nat.le_of_ble_eq_true rfl⟩) rfl rfl (fun r_3 _ H locs hw_4 hP hD hK hS => ?_)
  have hK : va_K D vwCl [(K, .int), (KS, .object "BarcodeWand$State"), (KC, .char), (KL, .long)] s := hK
  have hP : va_P D vwCl [(w, .inr (7, [.ref st, .ref hi, .ref re, .ref fo, .ref bu, .ref pa])), (st, .inr (6, [.ref la, .ref me, .ref li, .int 4, .int 0, .int 0])), (me, .inr (4, [.ref meA, .int 0])), (mo, .inr (8, [.ref ms, .int 0, .ref mb, .int 0, .int 0, .ref mlk, .int 0, .ref mfd, .int 0, .int 0, .int 0, .int 0])), (ms, .inl (K, 889, .inl (upd (fun _ => 0) 93 4)))] H := hP
  have hD : va_D A [(w, .inr (7, [.ref st, .ref hi, .ref re, .ref fo, .ref bu, .ref pa])), (st, .inr (6, [.ref la, .ref me, .ref li, .int 4, .int 0, .int 0])), (me, .inr (4, [.ref meA, .int 0])), (mo, .inr (8, [.ref ms, .int 0, .ref mb, .int 0, .int 0, .ref mlk, .int 0, .ref mfd, .int 0, .int 0, .int 0, .int 0])), (ms, .inl (K, 889, .inl (upd (fun _ => 0) 93 4)))] := hD
  have hw_4 : r_3 = 0 := hw_4
  have hw_4 := hw_4.symm
  subst hw_4
  refine k_nrm (y := 0) rfl ?_
  refine lv_icmp_eq (tgt := 1479) hx hb dL_law_627 (by decide) (fun _ => ?_) (fun c9 => absurd (by decide) c9)
  exact law_end C0 (by rw [hAe]; exact hS) (lv_sub hl [0, 4] rfl) (Nat.le_of_ble_eq_true rfl) (Nat.le_of_ble_eq_true rfl)
set_option maxHeartbeats 4000000 in
set_option maxRecDepth 100000 in
theorem law_c10 {p : Program} {l : Launch} {e : Env} {s : State} {m : MethodId} {below : List Frame} {meth : Method} {c : Code} {b : Nat} {xs : Nat → Int32} (hst : l.stackTraces = false) (D : va_G) (C0 : lw_At p s m meth c b 4 xs) (hG : k_G (fun q : Nat => s.heap.size ≤ q) s s.heap) {H : Heap} {locs : List Loc} {ls : Array Slot} (h : law_I D s b H locs ls) : W p l e room_1 s m #[Value.ref b] below meth c H locs 124 2208 (lw_Z below #[Value.ref b] s) (F0 m 632 ls []) := by
  have C1 := C0
  obtain ⟨hx, hb, hr, hml, hown, hts, hX, hbl, hlocks, hgv⟩ := C1
  have hown : s.vm.findClass RL = some m.cls := hown
  have ht : ∀ v9 ∈ wsA, v9.before #[Value.ref b] s = true := fun v9 h9 => hts v9 (wsA_tbl h9)
  have S0 : k_C p s m #[Value.ref b] c cL_law 7 RL := ⟨hx, hb, hml, hown, ht⟩
  have hbA : ¬ (fun q : Nat => s.heap.size ≤ q) b := Nat.not_le.mpr hbl
  have hA : ∀ q : Nat, s.heap.size ≤ q → (fun q : Nat => s.heap.size ≤ q) q := fun _ h9 => h9
  obtain ⟨y1, hy1⟩ : ∃ z9 : Int32, z9 = xs 1 := ⟨_, rfl⟩
  obtain ⟨y2, hy2⟩ : ∃ z9 : Int32, z9 = xs 2 := ⟨_, rfl⟩
  obtain ⟨y3, hy3⟩ : ∃ z9 : Int32, z9 = xs 3 := ⟨_, rfl⟩
  have hs0 : (upd (fun _ => 0) 93 4) 0 = 0 := rfl
  have hs51 : (upd (fun _ => 0) 93 4) 51 = 0 := rfl
  have hs93 : (upd (fun _ => 0) 93 4) 93 = 4 := rfl
  have hs94 : (upd (fun _ => 0) 93 4) 94 = 0 := rfl
  have hs125 : (upd (fun _ => 0) 93 4) 125 = 0 := rfl
  have hs126 : (upd (fun _ => 0) 93 4) 126 = 0 := rfl
  obtain ⟨w, st, la, ld, ldA, lz, lzA, me, meA, li, ln, lnA, ll, llA, lc, lcA, hi, ri, zst, zla, zld, zldA, zlz, zlzA, zme, zmeA, zli, zln, zlnA, zll, zllA, zlc, zlcA, re, rd, rdA, rl, rlA, fo, foA, bu, buA, pa, mo, ms, mb, mlk, mfd, out, rf, K, KS, KC, KL, hrf, hK, hP, hD, hS, hl⟩ := h
  have hl : lv_has ls 7 [(4, .int 0), (3, .ref out), (2, .ref mo), (1, .ref w), (0, .ref b)] := hl
  generalize hAe : (fun q : Nat => s.heap.size ≤ q) = A at hG hD hS hA hbA
  have hP : va_P D vwCl [(w, .inr (7, [.ref st, .ref hi, .ref re, .ref fo, .ref bu, .ref pa])), (st, .inr (6, [.ref la, .ref me, .ref li, .int 4, .int 0, .int 0])), (me, .inr (4, [.ref meA, .int 0])), (mo, .inr (8, [.ref ms, .int 0, .ref mb, .int 0, .int 0, .ref mlk, .int 0, .ref mfd, .int 0, .int 0, .int 0, .int 0])), (ms, .inl (K, 889, .inl (upd (fun _ => 0) 93 4))), (out, .inl (KL, 1, .inr (.inl (fun _ => 0))))] H := hP.sub [0, 1, 7, 43, 44, 48] rfl
  have hD : va_D A [(w, .inr (7, [.ref st, .ref hi, .ref re, .ref fo, .ref bu, .ref pa])), (st, .inr (6, [.ref la, .ref me, .ref li, .int 4, .int 0, .int 0])), (me, .inr (4, [.ref meA, .int 0])), (mo, .inr (8, [.ref ms, .int 0, .ref mb, .int 0, .int 0, .ref mlk, .int 0, .ref mfd, .int 0, .int 0, .int 0, .int 0])), (ms, .inl (K, 889, .inl (upd (fun _ => 0) 93 4))), (out, .inl (KL, 1, .inr (.inl (fun _ => 0))))] := hD.sub [0, 1, 7, 43, 44, 48] (by decide) rfl
  refine lv_aload_n hx hb dL_law_632 rfl (lv_at hl 3 rfl) ?_
  refine lv_aload_n hx hb dL_law_633 rfl (lv_at hl 4 rfl) ?_
  refine lv_iload hx hb dL_law_634 (lv_at hl 0 rfl) ?_
  refine lv_iconst (v := 1) hx hb dL_law_636 (by decide) ?_
  refine lv_iadd hx hb dL_law_637 ?_
  refine k_nrm (y := 1) (by decide) ?_
  refine va_sld hx hb hX hbl hbA hS (by unfold vp_in; decide) dL_law_638 ?_
  refine k_nrm (y := y1) (by rw [hy1]; rfl) ?_
  refine lv_aload_n hx hb dL_law_639 rfl (lv_at hl 1 rfl) ?_
  have ct := k_cut_of (wc := [(w, .inr (7, [.ref st, .ref hi, .ref re, .ref fo, .ref bu, .ref pa])), (st, .inr (6, [.ref la, .ref me, .ref li, .int 4, .int 0, .int 0])), (me, .inr (4, [.ref meA, .int 0])), (out, .inl (KL, 1, .inr (.inl (fun _ => 0))))]) (wr := [(mo, .inr (8, [.ref ms, .int 0, .ref mb, .int 0, .int 0, .ref mlk, .int 0, .ref mfd, .int 0, .int 0, .int 0, .int 0])), (ms, .inl (K, 889, .inl (upd (fun _ => 0) 93 4)))]) (tc := [(KL, .long)]) hG hS hA hK hP hD [0, 1, 2, 5] [3, 4] [3] rfl rfl (by decide) (by decide) (by decide) rfl
  refine k_endi (As := [.ref w, .int y1, .ref out]) ct (k_runSW (As := [.ref w, .int y1, .ref out]) (rest := []) S0 Ls_L_119 ct (c_L_time l hst D w st hi re fo bu pa la me li 4 0 0 meA y1 out KL (fun _ => 0) H.size) hl.1 rfl (Nat.le_of_ble_eq_true rfl) rfl dL_law_640 ⟨⟨Nat.le_of_ble_eq_true rfl, Nat.le_of_ble_eq_true rfl⟩, Nat.le_of_ble_eq_true rfl, Nat.le_of_ble_eq_true rfl⟩) rfl rfl (fun r_1 og_2 H locs hw_3 hP hD hK hS => ?_)
  have hK : va_K D vwCl [(K, .int), (KS, .object "BarcodeWand$State"), (KC, .char), (KL, .long)] s := hK
  have hP : va_P D vwCl [(mo, .inr (8, [.ref ms, .int 0, .ref mb, .int 0, .int 0, .ref mlk, .int 0, .ref mfd, .int 0, .int 0, .int 0, .int 0])), (ms, .inl (K, 889, .inl (upd (fun _ => 0) 93 4))), (out, .inl (KL, 1, .inr (.inl og_2)))] H := hP
  have hD : va_D A [(mo, .inr (8, [.ref ms, .int 0, .ref mb, .int 0, .int 0, .ref mlk, .int 0, .ref mfd, .int 0, .int 0, .int 0, .int 0])), (ms, .inl (K, 889, .inl (upd (fun _ => 0) 93 4))), (out, .inl (KL, 1, .inr (.inl og_2)))] := hD
  have hw_3 : r_1 = 1 := hw_3
  have hw_3 := hw_3.symm
  subst hw_3
  refine k_nrm (y := 1) rfl ?_
  refine lv_istore (lv' := [(5, .int 1), (4, .int 0), (3, .ref out), (2, .ref mo), (1, .ref w), (0, .ref b)]) hx hb dL_law_643 hl (by decide) rfl (fun ls hl => ?_)
  refine lv_aload_n hx hb dL_law_645 rfl (lv_at hl 3 rfl) ?_
  refine lv_aload_n hx hb dL_law_646 rfl (lv_at hl 5 rfl) ?_
  refine lv_iload hx hb dL_law_647 (lv_at hl 1 rfl) ?_
  refine lv_iconst (v := 1) hx hb dL_law_649 (by decide) ?_
  refine lv_iadd hx hb dL_law_650 ?_
  refine k_nrm (y := 1) (by decide) ?_
  refine va_sld hx hb hX hbl hbA hS (by unfold vp_in; decide) dL_law_651 ?_
  refine k_nrm (y := y1) (by rw [hy1]; rfl) ?_
  have ct := k_cut_of (wc := [(mo, .inr (8, [.ref ms, .int 0, .ref mb, .int 0, .int 0, .ref mlk, .int 0, .ref mfd, .int 0, .int 0, .int 0, .int 0])), (ms, .inl (K, 889, .inl (upd (fun _ => 0) 93 4)))]) (wr := [(out, .inl (KL, 1, .inr (.inl og_2)))]) (tc := [(K, .int)]) hG hS hA hK hP hD [0, 1] [2] [0] rfl rfl (by decide) (by decide) (by decide) rfl
  refine k_endi (As := [.ref mo, .int y1]) ct (k_runV (As := [.int y1]) (rest := []) S0 Lv_L_121 rfl (ci := 8) (q0 := 0) rfl rfl ct (c_M_time_ l D mo ms 0 mb 0 mlk 0 mfd 0 0 0 0 K (upd (fun _ => 0) 93 4) y1 (by first | assumption | exact (cpf_lo (by decide)).trans (by assumption)) (by first | assumption | exact (cpf_lo (by decide)).trans (by assumption)) (by first | assumption | exact (cpf_lo (by decide)).trans (by assumption)) (by first | assumption | exact (cpf_lo (by decide)).trans (by assumption)) (by first | assumption | exact (cpf_lo (by decide)).trans (by assumption)) (by first | assumption | exact (cpf_lo (by decide)).trans (by assumption)) H.size) hl.1 rfl (Nat.le_of_ble_eq_true rfl) rfl dL_law_652 ⟨⟨Nat.le_of_ble_eq_true rfl, Nat.le_of_ble_eq_true rfl⟩, Nat.le_of_ble_eq_true rfl, Nat.le_of_ble_eq_true rfl⟩) rfl rfl (fun r_4 _ H locs hw_5 hP hD hK hS => ?_)
  have hK : va_K D vwCl [(K, .int), (KS, .object "BarcodeWand$State"), (KC, .char), (KL, .long)] s := hK
  have hP : va_P D vwCl [(out, .inl (KL, 1, .inr (.inl og_2))), (mo, .inr (8, [.ref ms, .int 0, .ref mb, .int 0, .int 1, .ref mlk, .int 0, .ref mfd, .int 0, .int 0, .int 0, .int 0])), (ms, .inl (K, 889, .inl (upd (fun _ => 0) 93 4)))] H := hP
  have hD : va_D A [(out, .inl (KL, 1, .inr (.inl og_2))), (mo, .inr (8, [.ref ms, .int 0, .ref mb, .int 0, .int 1, .ref mlk, .int 0, .ref mfd, .int 0, .int 0, .int 0, .int 0])), (ms, .inl (K, 889, .inl (upd (fun _ => 0) 93 4)))] := hD
  have hw_5 : r_4 = 0 := hw_5
  have hw_5 := hw_5.symm
  subst hw_5
  refine k_nrm (y := 0) rfl ?_
  refine lv_istore (lv' := [(6, .int 0), (5, .int 1), (4, .int 0), (3, .ref out), (2, .ref mo), (1, .ref w), (0, .ref b)]) hx hb dL_law_655 hl (by decide) rfl (fun ls hl => ?_)
  refine lv_aload_n hx hb dL_law_657 rfl (lv_at hl 4 rfl) ?_
  have ct := k_cut_of (wc := [(mo, .inr (8, [.ref ms, .int 0, .ref mb, .int 0, .int 1, .ref mlk, .int 0, .ref mfd, .int 0, .int 0, .int 0, .int 0]))]) (wr := [(out, .inl (KL, 1, .inr (.inl og_2))), (ms, .inl (K, 889, .inl (upd (fun _ => 0) 93 4)))]) (tc := []) hG hS hA hK hP hD [1] [0, 2] [] rfl rfl (by decide) (by decide) (by decide) rfl
  refine k_endi (As := [.ref mo]) ct (k_runV (As := []) (rest := []) S0 Lv_L_83 rfl (ci := 8) (q0 := 0) rfl rfl ct (c_M_thrown2 l D mo ms 0 mb 0 1 mlk 0 mfd 0 0 0 0 H.size) hl.1 rfl (Nat.le_of_ble_eq_true rfl) rfl dL_law_658 ⟨⟨Nat.le_of_ble_eq_true rfl, Nat.le_of_ble_eq_true rfl⟩, Nat.le_of_ble_eq_true rfl, Nat.le_of_ble_eq_true rfl⟩) rfl rfl (fun r_6 _ H locs hw_7 hP hD hK hS => ?_)
  have hK : va_K D vwCl [(K, .int), (KS, .object "BarcodeWand$State"), (KC, .char), (KL, .long)] s := hK
  have hP : va_P D vwCl [(out, .inl (KL, 1, .inr (.inl og_2))), (ms, .inl (K, 889, .inl (upd (fun _ => 0) 93 4))), (mo, .inr (8, [.ref ms, .int 0, .ref mb, .int 0, .int 1, .ref mlk, .int 0, .ref mfd, .int 0, .int 0, .int 0, .int 0]))] H := hP
  have hD : va_D A [(out, .inl (KL, 1, .inr (.inl og_2))), (ms, .inl (K, 889, .inl (upd (fun _ => 0) 93 4))), (mo, .inr (8, [.ref ms, .int 0, .ref mb, .int 0, .int 1, .ref mlk, .int 0, .ref mfd, .int 0, .int 0, .int 0, .int 0]))] := hD
  have hw_7 : r_6 = 1 := hw_7
  have hw_7 := hw_7.symm
  subst hw_7
  refine k_nrm (y := 1) rfl ?_
  refine lv_iload hx hb dL_law_661 (lv_at hl 1 rfl) ?_
  refine lv_icmp_eq (tgt := 668) hx hb dL_law_663 (by decide) (fun _ => ?_) (fun c9 => absurd (by decide) c9)
  refine lv_iload hx hb dL_law_668 (lv_at hl 1 rfl) ?_
  refine lv_if_ne (tgt := 685) hx hb dL_law_670 (by decide) (fun _ => ?_) (fun c9 => absurd c9 (by decide))
  refine lv_goto (tgt := 1479) hx hb dL_law_685 (by decide) ?_
  exact law_end C0 (by rw [hAe]; exact hS) (lv_sub hl [2, 6] rfl) (Nat.le_of_ble_eq_true rfl) (Nat.le_of_ble_eq_true rfl)
set_option maxHeartbeats 4000000 in
set_option maxRecDepth 100000 in
theorem law_c11 {p : Program} {l : Launch} {e : Env} {s : State} {m : MethodId} {below : List Frame} {meth : Method} {c : Code} {b : Nat} {xs : Nat → Int32} (hst : l.stackTraces = false) (D : va_G) (C0 : lw_At p s m meth c b 4 xs) (hG : k_G (fun q : Nat => s.heap.size ≤ q) s s.heap) {H : Heap} {locs : List Loc} {ls : Array Slot} (h : law_I D s b H locs ls) : W p l e room_1 s m #[Value.ref b] below meth c H locs 124 2208 (lw_Z below #[Value.ref b] s) (F0 m 688 ls []) := by
  have C1 := C0
  obtain ⟨hx, hb, hr, hml, hown, hts, hX, hbl, hlocks, hgv⟩ := C1
  have hown : s.vm.findClass RL = some m.cls := hown
  have ht : ∀ v9 ∈ wsA, v9.before #[Value.ref b] s = true := fun v9 h9 => hts v9 (wsA_tbl h9)
  have S0 : k_C p s m #[Value.ref b] c cL_law 7 RL := ⟨hx, hb, hml, hown, ht⟩
  have hbA : ¬ (fun q : Nat => s.heap.size ≤ q) b := Nat.not_le.mpr hbl
  have hA : ∀ q : Nat, s.heap.size ≤ q → (fun q : Nat => s.heap.size ≤ q) q := fun _ h9 => h9
  obtain ⟨y1, hy1⟩ : ∃ z9 : Int32, z9 = xs 1 := ⟨_, rfl⟩
  obtain ⟨y2, hy2⟩ : ∃ z9 : Int32, z9 = xs 2 := ⟨_, rfl⟩
  obtain ⟨y3, hy3⟩ : ∃ z9 : Int32, z9 = xs 3 := ⟨_, rfl⟩
  have hs0 : (upd (fun _ => 0) 93 4) 0 = 0 := rfl
  have hs51 : (upd (fun _ => 0) 93 4) 51 = 0 := rfl
  have hs93 : (upd (fun _ => 0) 93 4) 93 = 4 := rfl
  have hs94 : (upd (fun _ => 0) 93 4) 94 = 0 := rfl
  have hs125 : (upd (fun _ => 0) 93 4) 125 = 0 := rfl
  have hs126 : (upd (fun _ => 0) 93 4) 126 = 0 := rfl
  obtain ⟨w, st, la, ld, ldA, lz, lzA, me, meA, li, ln, lnA, ll, llA, lc, lcA, hi, ri, zst, zla, zld, zldA, zlz, zlzA, zme, zmeA, zli, zln, zlnA, zll, zllA, zlc, zlcA, re, rd, rdA, rl, rlA, fo, foA, bu, buA, pa, mo, ms, mb, mlk, mfd, out, rf, K, KS, KC, KL, hrf, hK, hP, hD, hS, hl⟩ := h
  have hl : lv_has ls 7 [(4, .int 0), (3, .ref out), (2, .ref mo), (1, .ref w), (0, .ref b)] := hl
  generalize hAe : (fun q : Nat => s.heap.size ≤ q) = A at hG hD hS hA hbA
  have hP : va_P D vwCl [(w, .inr (7, [.ref st, .ref hi, .ref re, .ref fo, .ref bu, .ref pa])), (st, .inr (6, [.ref la, .ref me, .ref li, .int 4, .int 0, .int 0])), (la, .inr (2, [.ref ld, .ref lz])), (ld, .inr (4, [.ref ldA, .int 0])), (lz, .inr (4, [.ref lzA, .int 0])), (me, .inr (4, [.ref meA, .int 0])), (li, .inr (0, [.ref ln, .ref ll, .ref lc])), (ln, .inr (4, [.ref lnA, .int 0])), (ll, .inr (4, [.ref llA, .int 0])), (lc, .inr (4, [.ref lcA, .int 0])), (hi, .inr (5, [.ref ri, .int 0, .int 0])), (ri, .inl (KS, 6, .inr (.inr (.inr (.inr rf))))), (zst, .inr (6, [.ref zla, .ref zme, .ref zli, .int 4, .int 0, .int 0])), (zla, .inr (2, [.ref zld, .ref zlz])), (zld, .inr (4, [.ref zldA, .int 0])), (zlz, .inr (4, [.ref zlzA, .int 0])), (zme, .inr (4, [.ref zmeA, .int 0])), (zli, .inr (0, [.ref zln, .ref zll, .ref zlc])), (zln, .inr (4, [.ref zlnA, .int 0])), (zll, .inr (4, [.ref zllA, .int 0])), (zlc, .inr (4, [.ref zlcA, .int 0])), (mo, .inr (8, [.ref ms, .int 0, .ref mb, .int 0, .int 0, .ref mlk, .int 0, .ref mfd, .int 0, .int 0, .int 0, .int 0])), (ms, .inl (K, 889, .inl (upd (fun _ => 0) 93 4))), (out, .inl (KL, 1, .inr (.inl (fun _ => 0))))] H := hP.sub [0, 1, 2, 3, 5, 7, 9, 10, 12, 14, 16, 17, 18, 19, 20, 22, 24, 26, 27, 29, 31, 43, 44, 48] rfl
  have hD : va_D A [(w, .inr (7, [.ref st, .ref hi, .ref re, .ref fo, .ref bu, .ref pa])), (st, .inr (6, [.ref la, .ref me, .ref li, .int 4, .int 0, .int 0])), (la, .inr (2, [.ref ld, .ref lz])), (ld, .inr (4, [.ref ldA, .int 0])), (lz, .inr (4, [.ref lzA, .int 0])), (me, .inr (4, [.ref meA, .int 0])), (li, .inr (0, [.ref ln, .ref ll, .ref lc])), (ln, .inr (4, [.ref lnA, .int 0])), (ll, .inr (4, [.ref llA, .int 0])), (lc, .inr (4, [.ref lcA, .int 0])), (hi, .inr (5, [.ref ri, .int 0, .int 0])), (ri, .inl (KS, 6, .inr (.inr (.inr (.inr rf))))), (zst, .inr (6, [.ref zla, .ref zme, .ref zli, .int 4, .int 0, .int 0])), (zla, .inr (2, [.ref zld, .ref zlz])), (zld, .inr (4, [.ref zldA, .int 0])), (zlz, .inr (4, [.ref zlzA, .int 0])), (zme, .inr (4, [.ref zmeA, .int 0])), (zli, .inr (0, [.ref zln, .ref zll, .ref zlc])), (zln, .inr (4, [.ref zlnA, .int 0])), (zll, .inr (4, [.ref zllA, .int 0])), (zlc, .inr (4, [.ref zlcA, .int 0])), (mo, .inr (8, [.ref ms, .int 0, .ref mb, .int 0, .int 0, .ref mlk, .int 0, .ref mfd, .int 0, .int 0, .int 0, .int 0])), (ms, .inl (K, 889, .inl (upd (fun _ => 0) 93 4))), (out, .inl (KL, 1, .inr (.inl (fun _ => 0))))] := hD.sub [0, 1, 2, 3, 5, 7, 9, 10, 12, 14, 16, 17, 18, 19, 20, 22, 24, 26, 27, 29, 31, 43, 44, 48] (by decide) rfl
  refine lv_aload_n hx hb dL_law_688 rfl (lv_at hl 3 rfl) ?_
  refine lv_aload_n hx hb dL_law_689 rfl (lv_at hl 4 rfl) ?_
  refine lv_iload hx hb dL_law_690 (lv_at hl 0 rfl) ?_
  refine lv_iconst (v := 1) hx hb dL_law_692 (by decide) ?_
  refine lv_iadd hx hb dL_law_693 ?_
  refine k_nrm (y := 1) (by decide) ?_
  refine va_sld hx hb hX hbl hbA hS (by unfold vp_in; decide) dL_law_694 ?_
  refine k_nrm (y := y1) (by rw [hy1]; rfl) ?_
  refine lv_aload_n hx hb dL_law_695 rfl (lv_at hl 1 rfl) ?_
  have ct := k_cut_of (wc := [(w, .inr (7, [.ref st, .ref hi, .ref re, .ref fo, .ref bu, .ref pa])), (hi, .inr (5, [.ref ri, .int 0, .int 0])), (ri, .inl (KS, 6, .inr (.inr (.inr (.inr rf))))), (zst, .inr (6, [.ref zla, .ref zme, .ref zli, .int 4, .int 0, .int 0])), (zla, .inr (2, [.ref zld, .ref zlz])), (zld, .inr (4, [.ref zldA, .int 0])), (zlz, .inr (4, [.ref zlzA, .int 0])), (zme, .inr (4, [.ref zmeA, .int 0])), (zli, .inr (0, [.ref zln, .ref zll, .ref zlc])), (zln, .inr (4, [.ref zlnA, .int 0])), (zll, .inr (4, [.ref zllA, .int 0])), (zlc, .inr (4, [.ref zlcA, .int 0])), (st, .inr (6, [.ref la, .ref me, .ref li, .int 4, .int 0, .int 0])), (la, .inr (2, [.ref ld, .ref lz])), (ld, .inr (4, [.ref ldA, .int 0])), (lz, .inr (4, [.ref lzA, .int 0])), (me, .inr (4, [.ref meA, .int 0])), (li, .inr (0, [.ref ln, .ref ll, .ref lc])), (ln, .inr (4, [.ref lnA, .int 0])), (ll, .inr (4, [.ref llA, .int 0])), (lc, .inr (4, [.ref lcA, .int 0])), (out, .inl (KL, 1, .inr (.inl (fun _ => 0))))]) (wr := [(mo, .inr (8, [.ref ms, .int 0, .ref mb, .int 0, .int 0, .ref mlk, .int 0, .ref mfd, .int 0, .int 0, .int 0, .int 0])), (ms, .inl (K, 889, .inl (upd (fun _ => 0) 93 4)))]) (tc := [(KS, .object "BarcodeWand$State"), (KL, .long)]) hG hS hA hK hP hD [0, 10, 11, 12, 13, 14, 15, 16, 17, 18, 19, 20, 1, 2, 3, 4, 5, 6, 7, 8, 9, 23] [21, 22] [1, 3] rfl rfl (by decide) (by decide) (by decide) rfl
  refine k_endi (As := [.ref w, .int y1, .ref out]) ct (k_runSW (As := [.ref w, .int y1, .ref out]) (rest := []) S0 Ls_L_122 ct (c_L_setTolerance l hst D w st hi re fo bu pa ri KS rf zst zla zme zli 4 0 0 zld zlz zldA 0 zlzA 0 zmeA 0 zln zll zlc zlnA 0 zllA 0 zlcA 0 la me li 4 0 0 ld lz ldA lzA meA ln ll lc lnA llA lcA y1 out KL (fun _ => 0) (by assumption) H.size) hl.1 rfl (Nat.le_of_ble_eq_true rfl) rfl dL_law_696 ⟨⟨Nat.le_of_ble_eq_true rfl, Nat.le_of_ble_eq_true rfl⟩, Nat.le_of_ble_eq_true rfl, Nat.le_of_ble_eq_true rfl⟩) rfl rfl (fun r_1 og_2 H locs hw_3 hP hD hK hS => ?_)
  have hK : va_K D vwCl [(K, .int), (KS, .object "BarcodeWand$State"), (KC, .char), (KL, .long)] s := hK
  have hP : va_P D vwCl [(mo, .inr (8, [.ref ms, .int 0, .ref mb, .int 0, .int 0, .ref mlk, .int 0, .ref mfd, .int 0, .int 0, .int 0, .int 0])), (ms, .inl (K, 889, .inl (upd (fun _ => 0) 93 4))), (out, .inl (KL, 1, .inr (.inl og_2)))] H := hP
  have hD : va_D A [(mo, .inr (8, [.ref ms, .int 0, .ref mb, .int 0, .int 0, .ref mlk, .int 0, .ref mfd, .int 0, .int 0, .int 0, .int 0])), (ms, .inl (K, 889, .inl (upd (fun _ => 0) 93 4))), (out, .inl (KL, 1, .inr (.inl og_2)))] := hD
  rcases hw_3 with ⟨c_4, rfl, c_5⟩ | ⟨c_6, rfl⟩
  · skip
    refine lv_istore (lv' := [(5, .int 0), (4, .int 0), (3, .ref out), (2, .ref mo), (1, .ref w), (0, .ref b)]) hx hb dL_law_699 hl (by decide) rfl (fun ls hl => ?_)
    refine lv_aload_n hx hb dL_law_701 rfl (lv_at hl 3 rfl) ?_
    refine lv_aload_n hx hb dL_law_702 rfl (lv_at hl 5 rfl) ?_
    refine lv_iload hx hb dL_law_703 (lv_at hl 1 rfl) ?_
    refine lv_iconst (v := 1) hx hb dL_law_705 (by decide) ?_
    refine lv_iadd hx hb dL_law_706 ?_
    refine k_nrm (y := 1) (by decide) ?_
    refine va_sld hx hb hX hbl hbA hS (by unfold vp_in; decide) dL_law_707 ?_
    refine k_nrm (y := y1) (by rw [hy1]; rfl) ?_
    have ct := k_cut_of (wc := [(mo, .inr (8, [.ref ms, .int 0, .ref mb, .int 0, .int 0, .ref mlk, .int 0, .ref mfd, .int 0, .int 0, .int 0, .int 0])), (ms, .inl (K, 889, .inl (upd (fun _ => 0) 93 4)))]) (wr := [(out, .inl (KL, 1, .inr (.inl og_2)))]) (tc := [(K, .int)]) hG hS hA hK hP hD [0, 1] [2] [0] rfl rfl (by decide) (by decide) (by decide) rfl
    refine k_endi (As := [.ref mo, .int y1]) ct (k_runV (As := [.int y1]) (rest := []) S0 Lv_L_124 rfl (ci := 8) (q0 := 0) rfl rfl ct (c_M_setTol l D mo ms mb 0 mlk 0 mfd 0 0 0 0 K (upd (fun _ => 0) 93 4) y1 (by first | assumption | exact (cpf_lo (by decide)).trans (by assumption)) (by first | assumption | exact (cpf_lo (by decide)).trans (by assumption)) (by first | assumption | exact (cpf_lo (by decide)).trans (by assumption)) (by first | assumption | exact (cpf_lo (by decide)).trans (by assumption)) (by first | assumption | exact (cpf_lo (by decide)).trans (by assumption)) (by first | assumption | exact (cpf_lo (by decide)).trans (by assumption)) H.size) hl.1 rfl (Nat.le_of_ble_eq_true rfl) rfl dL_law_708 ⟨⟨Nat.le_of_ble_eq_true rfl, Nat.le_of_ble_eq_true rfl⟩, Nat.le_of_ble_eq_true rfl, Nat.le_of_ble_eq_true rfl⟩) rfl rfl (fun r_7 u H locs hw_11 hP hD hK hS => ?_)
    obtain ⟨th1v_8, sv1v_9, sg_10⟩ := u
    have hK : va_K D vwCl [(K, .int), (KS, .object "BarcodeWand$State"), (KC, .char), (KL, .long)] s := hK
    have hP : va_P D vwCl [(out, .inl (KL, 1, .inr (.inl og_2))), (mo, .inr (8, [.ref ms, .int sv1v_9, .ref mb, .int 0, .int th1v_8, .ref mlk, .int 0, .ref mfd, .int 0, .int 0, .int 0, .int 0])), (ms, .inl (K, 889, .inl sg_10))] H := hP
    have hD : va_D A [(out, .inl (KL, 1, .inr (.inl og_2))), (mo, .inr (8, [.ref ms, .int sv1v_9, .ref mb, .int 0, .int th1v_8, .ref mlk, .int 0, .ref mfd, .int 0, .int 0, .int 0, .int 0])), (ms, .inl (K, 889, .inl sg_10))] := hD
    rcases hw_11 with ⟨c_12, rfl, rfl⟩ | ⟨c_13, rfl⟩
    · skip
      refine lv_istore (lv' := [(6, .int 4), (5, .int 0), (4, .int 0), (3, .ref out), (2, .ref mo), (1, .ref w), (0, .ref b)]) hx hb dL_law_711 hl (by decide) rfl (fun ls hl => ?_)
      refine lv_aload_n hx hb dL_law_713 rfl (lv_at hl 4 rfl) ?_
      have ct := k_cut_of (wc := [(mo, .inr (8, [.ref ms, .int sv1v_9, .ref mb, .int 0, .int 0, .ref mlk, .int 0, .ref mfd, .int 0, .int 0, .int 0, .int 0]))]) (wr := [(out, .inl (KL, 1, .inr (.inl og_2))), (ms, .inl (K, 889, .inl sg_10))]) (tc := []) hG hS hA hK hP hD [1] [0, 2] [] rfl rfl (by decide) (by decide) (by decide) rfl
      refine k_endi (As := [.ref mo]) ct (k_runV (As := []) (rest := []) S0 Lv_L_83 rfl (ci := 8) (q0 := 0) rfl rfl ct (c_M_thrown2 l D mo ms sv1v_9 mb 0 0 mlk 0 mfd 0 0 0 0 H.size) hl.1 rfl (Nat.le_of_ble_eq_true rfl) rfl dL_law_714 ⟨⟨Nat.le_of_ble_eq_true rfl, Nat.le_of_ble_eq_true rfl⟩, Nat.le_of_ble_eq_true rfl, Nat.le_of_ble_eq_true rfl⟩) rfl rfl (fun r_14 _ H locs hw_15 hP hD hK hS => ?_)
      have hK : va_K D vwCl [(K, .int), (KS, .object "BarcodeWand$State"), (KC, .char), (KL, .long)] s := hK
      have hP : va_P D vwCl [(out, .inl (KL, 1, .inr (.inl og_2))), (ms, .inl (K, 889, .inl sg_10)), (mo, .inr (8, [.ref ms, .int sv1v_9, .ref mb, .int 0, .int 0, .ref mlk, .int 0, .ref mfd, .int 0, .int 0, .int 0, .int 0]))] H := hP
      have hD : va_D A [(out, .inl (KL, 1, .inr (.inl og_2))), (ms, .inl (K, 889, .inl sg_10)), (mo, .inr (8, [.ref ms, .int sv1v_9, .ref mb, .int 0, .int 0, .ref mlk, .int 0, .ref mfd, .int 0, .int 0, .int 0, .int 0]))] := hD
      have hw_15 : r_14 = 0 := hw_15
      have hw_15 := hw_15.symm
      subst hw_15
      refine k_nrm (y := 0) rfl ?_
      refine lv_iload hx hb dL_law_717 (lv_at hl 1 rfl) ?_
      refine lv_icmp_eq (tgt := 724) hx hb dL_law_719 (by decide) (fun _ => ?_) (fun c9 => absurd (by decide) c9)
      refine lv_iload hx hb dL_law_724 (lv_at hl 1 rfl) ?_
      refine lv_if_ne (tgt := 741) hx hb dL_law_726 (by decide) (fun c9 => absurd (by decide) c9) (fun _ => ?_)
      refine lv_aload_n hx hb dL_law_729 rfl (lv_at hl 3 rfl) ?_
      refine lv_iconst (v := 0) hx hb dL_law_730 (by decide) ?_
      refine va_lald hx hb hK hP 0 3 rfl rfl (by unfold vp_in; decide) dL_law_731 ?_
      refine k_nrml (y := 4) ((show og_2 (0 : Int32).toNatClampNeg = (4 : Int32).toInt64 from c_5).trans (by decide)) ?_
      refine lv_iload hx hb dL_law_732 (lv_at hl 0 rfl) ?_
      refine lv_i2l (v := 4) hx hb dL_law_734 (by decide) ?_
      refine W.lcmp hx hb dL_law_735 ?_
      refine k_nrm (y := 0) (by decide) ?_
      refine lv_if_eq (tgt := 741) hx hb dL_law_736 (by decide) (fun _ => ?_) (fun c9 => absurd (by decide) c9)
      refine lv_goto (tgt := 1479) hx hb dL_law_741 (by decide) ?_
      exact law_end C0 (by rw [hAe]; exact hS) (lv_sub hl [2, 6] rfl) (Nat.le_of_ble_eq_true rfl) (Nat.le_of_ble_eq_true rfl)
    · skip
      exact absurd c_4 c_13
  · skip
    refine lv_istore (lv' := [(5, .int 1), (4, .int 0), (3, .ref out), (2, .ref mo), (1, .ref w), (0, .ref b)]) hx hb dL_law_699 hl (by decide) rfl (fun ls hl => ?_)
    refine lv_aload_n hx hb dL_law_701 rfl (lv_at hl 3 rfl) ?_
    refine lv_aload_n hx hb dL_law_702 rfl (lv_at hl 5 rfl) ?_
    refine lv_iload hx hb dL_law_703 (lv_at hl 1 rfl) ?_
    refine lv_iconst (v := 1) hx hb dL_law_705 (by decide) ?_
    refine lv_iadd hx hb dL_law_706 ?_
    refine k_nrm (y := 1) (by decide) ?_
    refine va_sld hx hb hX hbl hbA hS (by unfold vp_in; decide) dL_law_707 ?_
    refine k_nrm (y := y1) (by rw [hy1]; rfl) ?_
    have ct := k_cut_of (wc := [(mo, .inr (8, [.ref ms, .int 0, .ref mb, .int 0, .int 0, .ref mlk, .int 0, .ref mfd, .int 0, .int 0, .int 0, .int 0])), (ms, .inl (K, 889, .inl (upd (fun _ => 0) 93 4)))]) (wr := [(out, .inl (KL, 1, .inr (.inl og_2)))]) (tc := [(K, .int)]) hG hS hA hK hP hD [0, 1] [2] [0] rfl rfl (by decide) (by decide) (by decide) rfl
    refine k_endi (As := [.ref mo, .int y1]) ct (k_runV (As := [.int y1]) (rest := []) S0 Lv_L_124 rfl (ci := 8) (q0 := 0) rfl rfl ct (c_M_setTol l D mo ms mb 0 mlk 0 mfd 0 0 0 0 K (upd (fun _ => 0) 93 4) y1 (by first | assumption | exact (cpf_lo (by decide)).trans (by assumption)) (by first | assumption | exact (cpf_lo (by decide)).trans (by assumption)) (by first | assumption | exact (cpf_lo (by decide)).trans (by assumption)) (by first | assumption | exact (cpf_lo (by decide)).trans (by assumption)) (by first | assumption | exact (cpf_lo (by decide)).trans (by assumption)) (by first | assumption | exact (cpf_lo (by decide)).trans (by assumption)) H.size) hl.1 rfl (Nat.le_of_ble_eq_true rfl) rfl dL_law_708 ⟨⟨Nat.le_of_ble_eq_true rfl, Nat.le_of_ble_eq_true rfl⟩, Nat.le_of_ble_eq_true rfl, Nat.le_of_ble_eq_true rfl⟩) rfl rfl (fun r_16 u H locs hw_20 hP hD hK hS => ?_)
    obtain ⟨th1v_17, sv1v_18, sg_19⟩ := u
    have hK : va_K D vwCl [(K, .int), (KS, .object "BarcodeWand$State"), (KC, .char), (KL, .long)] s := hK
    have hP : va_P D vwCl [(out, .inl (KL, 1, .inr (.inl og_2))), (mo, .inr (8, [.ref ms, .int sv1v_18, .ref mb, .int 0, .int th1v_17, .ref mlk, .int 0, .ref mfd, .int 0, .int 0, .int 0, .int 0])), (ms, .inl (K, 889, .inl sg_19))] H := hP
    have hD : va_D A [(out, .inl (KL, 1, .inr (.inl og_2))), (mo, .inr (8, [.ref ms, .int sv1v_18, .ref mb, .int 0, .int th1v_17, .ref mlk, .int 0, .ref mfd, .int 0, .int 0, .int 0, .int 0])), (ms, .inl (K, 889, .inl sg_19))] := hD
    rcases hw_20 with ⟨c_21, rfl, rfl⟩ | ⟨c_22, rfl⟩
    · skip
      exact absurd c_21 c_6
    · skip
      refine lv_istore (lv' := [(6, .int r_16), (5, .int 1), (4, .int 0), (3, .ref out), (2, .ref mo), (1, .ref w), (0, .ref b)]) hx hb dL_law_711 hl (by decide) rfl (fun ls hl => ?_)
      refine lv_aload_n hx hb dL_law_713 rfl (lv_at hl 4 rfl) ?_
      have ct := k_cut_of (wc := [(mo, .inr (8, [.ref ms, .int sv1v_18, .ref mb, .int 0, .int 1, .ref mlk, .int 0, .ref mfd, .int 0, .int 0, .int 0, .int 0]))]) (wr := [(out, .inl (KL, 1, .inr (.inl og_2))), (ms, .inl (K, 889, .inl sg_19))]) (tc := []) hG hS hA hK hP hD [1] [0, 2] [] rfl rfl (by decide) (by decide) (by decide) rfl
      refine k_endi (As := [.ref mo]) ct (k_runV (As := []) (rest := []) S0 Lv_L_83 rfl (ci := 8) (q0 := 0) rfl rfl ct (c_M_thrown2 l D mo ms sv1v_18 mb 0 1 mlk 0 mfd 0 0 0 0 H.size) hl.1 rfl (Nat.le_of_ble_eq_true rfl) rfl dL_law_714 ⟨⟨Nat.le_of_ble_eq_true rfl, Nat.le_of_ble_eq_true rfl⟩, Nat.le_of_ble_eq_true rfl, Nat.le_of_ble_eq_true rfl⟩) rfl rfl (fun r_23 _ H locs hw_24 hP hD hK hS => ?_)
      have hK : va_K D vwCl [(K, .int), (KS, .object "BarcodeWand$State"), (KC, .char), (KL, .long)] s := hK
      have hP : va_P D vwCl [(out, .inl (KL, 1, .inr (.inl og_2))), (ms, .inl (K, 889, .inl sg_19)), (mo, .inr (8, [.ref ms, .int sv1v_18, .ref mb, .int 0, .int 1, .ref mlk, .int 0, .ref mfd, .int 0, .int 0, .int 0, .int 0]))] H := hP
      have hD : va_D A [(out, .inl (KL, 1, .inr (.inl og_2))), (ms, .inl (K, 889, .inl sg_19)), (mo, .inr (8, [.ref ms, .int sv1v_18, .ref mb, .int 0, .int 1, .ref mlk, .int 0, .ref mfd, .int 0, .int 0, .int 0, .int 0]))] := hD
      have hw_24 : r_23 = 1 := hw_24
      have hw_24 := hw_24.symm
      subst hw_24
      refine k_nrm (y := 1) rfl ?_
      refine lv_iload hx hb dL_law_717 (lv_at hl 1 rfl) ?_
      refine lv_icmp_eq (tgt := 724) hx hb dL_law_719 (by decide) (fun _ => ?_) (fun c9 => absurd (by decide) c9)
      refine lv_iload hx hb dL_law_724 (lv_at hl 1 rfl) ?_
      refine lv_if_ne (tgt := 741) hx hb dL_law_726 (by decide) (fun _ => ?_) (fun c9 => absurd c9 (by decide))
      refine lv_goto (tgt := 1479) hx hb dL_law_741 (by decide) ?_
      exact law_end C0 (by rw [hAe]; exact hS) (lv_sub hl [2, 6] rfl) (Nat.le_of_ble_eq_true rfl) (Nat.le_of_ble_eq_true rfl)
set_option maxHeartbeats 4000000 in
set_option maxRecDepth 100000 in
theorem law_c12 {p : Program} {l : Launch} {e : Env} {s : State} {m : MethodId} {below : List Frame} {meth : Method} {c : Code} {b : Nat} {xs : Nat → Int32} (hst : l.stackTraces = false) (D : va_G) (C0 : lw_At p s m meth c b 4 xs) (hG : k_G (fun q : Nat => s.heap.size ≤ q) s s.heap) {H : Heap} {locs : List Loc} {ls : Array Slot} (h : law_I D s b H locs ls) : W p l e room_1 s m #[Value.ref b] below meth c H locs 124 2208 (lw_Z below #[Value.ref b] s) (F0 m 744 ls []) := by
  have C1 := C0
  obtain ⟨hx, hb, hr, hml, hown, hts, hX, hbl, hlocks, hgv⟩ := C1
  have hown : s.vm.findClass RL = some m.cls := hown
  have ht : ∀ v9 ∈ wsA, v9.before #[Value.ref b] s = true := fun v9 h9 => hts v9 (wsA_tbl h9)
  have S0 : k_C p s m #[Value.ref b] c cL_law 7 RL := ⟨hx, hb, hml, hown, ht⟩
  have hbA : ¬ (fun q : Nat => s.heap.size ≤ q) b := Nat.not_le.mpr hbl
  have hA : ∀ q : Nat, s.heap.size ≤ q → (fun q : Nat => s.heap.size ≤ q) q := fun _ h9 => h9
  obtain ⟨y1, hy1⟩ : ∃ z9 : Int32, z9 = xs 1 := ⟨_, rfl⟩
  obtain ⟨y2, hy2⟩ : ∃ z9 : Int32, z9 = xs 2 := ⟨_, rfl⟩
  obtain ⟨y3, hy3⟩ : ∃ z9 : Int32, z9 = xs 3 := ⟨_, rfl⟩
  have hs0 : (upd (fun _ => 0) 93 4) 0 = 0 := rfl
  have hs51 : (upd (fun _ => 0) 93 4) 51 = 0 := rfl
  have hs93 : (upd (fun _ => 0) 93 4) 93 = 4 := rfl
  have hs94 : (upd (fun _ => 0) 93 4) 94 = 0 := rfl
  have hs125 : (upd (fun _ => 0) 93 4) 125 = 0 := rfl
  have hs126 : (upd (fun _ => 0) 93 4) 126 = 0 := rfl
  obtain ⟨w, st, la, ld, ldA, lz, lzA, me, meA, li, ln, lnA, ll, llA, lc, lcA, hi, ri, zst, zla, zld, zldA, zlz, zlzA, zme, zmeA, zli, zln, zlnA, zll, zllA, zlc, zlcA, re, rd, rdA, rl, rlA, fo, foA, bu, buA, pa, mo, ms, mb, mlk, mfd, out, rf, K, KS, KC, KL, hrf, hK, hP, hD, hS, hl⟩ := h
  have hl : lv_has ls 7 [(4, .int 0), (3, .ref out), (2, .ref mo), (1, .ref w), (0, .ref b)] := hl
  generalize hAe : (fun q : Nat => s.heap.size ≤ q) = A at hG hD hS hA hbA
  have hP : va_P D vwCl [(w, .inr (7, [.ref st, .ref hi, .ref re, .ref fo, .ref bu, .ref pa])), (st, .inr (6, [.ref la, .ref me, .ref li, .int 4, .int 0, .int 0])), (me, .inr (4, [.ref meA, .int 0])), (re, .inr (3, [.ref rd, .int 0, .ref rl, .int 0, .int 0, .int 0, .int 0, .int 0])), (rd, .inr (4, [.ref rdA, .int 0])), (rl, .inr (4, [.ref rlA, .int 0])), (mo, .inr (8, [.ref ms, .int 0, .ref mb, .int 0, .int 0, .ref mlk, .int 0, .ref mfd, .int 0, .int 0, .int 0, .int 0])), (ms, .inl (K, 889, .inl (upd (fun _ => 0) 93 4)))] H := hP.sub [0, 1, 7, 33, 34, 36, 43, 44] rfl
  have hD : va_D A [(w, .inr (7, [.ref st, .ref hi, .ref re, .ref fo, .ref bu, .ref pa])), (st, .inr (6, [.ref la, .ref me, .ref li, .int 4, .int 0, .int 0])), (me, .inr (4, [.ref meA, .int 0])), (re, .inr (3, [.ref rd, .int 0, .ref rl, .int 0, .int 0, .int 0, .int 0, .int 0])), (rd, .inr (4, [.ref rdA, .int 0])), (rl, .inr (4, [.ref rlA, .int 0])), (mo, .inr (8, [.ref ms, .int 0, .ref mb, .int 0, .int 0, .ref mlk, .int 0, .ref mfd, .int 0, .int 0, .int 0, .int 0])), (ms, .inl (K, 889, .inl (upd (fun _ => 0) 93 4)))] := hD.sub [0, 1, 7, 33, 34, 36, 43, 44] (by decide) rfl
  refine lv_aload_n hx hb dL_law_744 rfl (lv_at hl 3 rfl) ?_
  have ct := k_cut_of (wc := [(w, .inr (7, [.ref st, .ref hi, .ref re, .ref fo, .ref bu, .ref pa])), (st, .inr (6, [.ref la, .ref me, .ref li, .int 4, .int 0, .int 0])), (me, .inr (4, [.ref meA, .int 0])), (re, .inr (3, [.ref rd, .int 0, .ref rl, .int 0, .int 0, .int 0, .int 0, .int 0])), (rd, .inr (4, [.ref rdA, .int 0])), (rl, .inr (4, [.ref rlA, .int 0]))]) (wr := [(mo, .inr (8, [.ref ms, .int 0, .ref mb, .int 0, .int 0, .ref mlk, .int 0, .ref mfd, .int 0, .int 0, .int 0, .int 0])), (ms, .inl (K, 889, .inl (upd (fun _ => 0) 93 4)))]) (tc := []) hG hS hA hK hP hD [0, 1, 2, 3, 4, 5] [6, 7] [] rfl rfl (by decide) (by decide) (by decide) rfl
  refine k_endi (As := [.ref w]) ct (k_runV (As := []) (rest := []) S0 Lv_L_125 rfl (ci := 7) (q0 := 0) rfl rfl ct (c_W_result l D w st hi re fo bu pa la me li 4 0 0 meA rd 0 rl 0 0 0 0 0 rdA 0 rlA 0 H.size) hl.1 rfl (Nat.le_of_ble_eq_true rfl) rfl dL_law_745 ⟨⟨Nat.le_of_ble_eq_true rfl, Nat.le_of_ble_eq_true rfl⟩, Nat.le_of_ble_eq_true rfl, Nat.le_of_ble_eq_true rfl⟩) rfl rfl (fun r_1 _ H locs hw_2 hP hD hK hS => ?_)
  have hK : va_K D vwCl [(K, .int), (KS, .object "BarcodeWand$State"), (KC, .char), (KL, .long)] s := hK
  have hP : va_P D vwCl [(mo, .inr (8, [.ref ms, .int 0, .ref mb, .int 0, .int 0, .ref mlk, .int 0, .ref mfd, .int 0, .int 0, .int 0, .int 0])), (ms, .inl (K, 889, .inl (upd (fun _ => 0) 93 4))), (w, .inr (7, [.ref st, .ref hi, .ref re, .ref fo, .ref bu, .ref pa])), (st, .inr (6, [.ref la, .ref me, .ref li, .int 4, .int 0, .int 0])), (me, .inr (4, [.ref meA, .int 0])), (re, .inr (3, [.ref rd, .int 0, .ref rl, .int 0, .int 0, .int 0, .int 0, .int 0])), (rd, .inr (4, [.ref rdA, .int 0])), (rl, .inr (4, [.ref rlA, .int 0]))] H := hP
  have hD : va_D A [(mo, .inr (8, [.ref ms, .int 0, .ref mb, .int 0, .int 0, .ref mlk, .int 0, .ref mfd, .int 0, .int 0, .int 0, .int 0])), (ms, .inl (K, 889, .inl (upd (fun _ => 0) 93 4))), (w, .inr (7, [.ref st, .ref hi, .ref re, .ref fo, .ref bu, .ref pa])), (st, .inr (6, [.ref la, .ref me, .ref li, .int 4, .int 0, .int 0])), (me, .inr (4, [.ref meA, .int 0])), (re, .inr (3, [.ref rd, .int 0, .ref rl, .int 0, .int 0, .int 0, .int 0, .int 0])), (rd, .inr (4, [.ref rdA, .int 0])), (rl, .inr (4, [.ref rlA, .int 0]))] := hD
  have hw_2 : r_1 = 1 := hw_2
  have hw_2 := hw_2.symm
  subst hw_2
  refine k_nrm (y := 1) rfl ?_
  refine lv_aload_n hx hb dL_law_748 rfl (lv_at hl 2 rfl) ?_
  have ct := k_cut_of (wc := [(mo, .inr (8, [.ref ms, .int 0, .ref mb, .int 0, .int 0, .ref mlk, .int 0, .ref mfd, .int 0, .int 0, .int 0, .int 0])), (ms, .inl (K, 889, .inl (upd (fun _ => 0) 93 4)))]) (wr := [(w, .inr (7, [.ref st, .ref hi, .ref re, .ref fo, .ref bu, .ref pa])), (st, .inr (6, [.ref la, .ref me, .ref li, .int 4, .int 0, .int 0])), (me, .inr (4, [.ref meA, .int 0])), (re, .inr (3, [.ref rd, .int 0, .ref rl, .int 0, .int 0, .int 0, .int 0, .int 0])), (rd, .inr (4, [.ref rdA, .int 0])), (rl, .inr (4, [.ref rlA, .int 0]))]) (tc := [(K, .int)]) hG hS hA hK hP hD [0, 1] [2, 3, 4, 5, 6, 7] [0] rfl rfl (by decide) (by decide) (by decide) rfl
  refine k_endi (As := [.ref mo]) ct (k_runV (As := []) (rest := [.int 1]) S0 Lv_L_128 rfl (ci := 8) (q0 := 0) rfl rfl ct (c_M_result l D mo ms 0 mb 0 mlk 0 mfd 0 0 0 0 K (upd (fun _ => 0) 93 4) (by first | assumption | exact (cpf_lo (by decide)).trans (by assumption)) (by first | assumption | exact (cpf_lo (by decide)).trans (by assumption)) (by first | assumption | exact (cpf_lo (by decide)).trans (by assumption)) (by first | assumption | exact (cpf_lo (by decide)).trans (by assumption)) (by first | assumption | exact (cpf_lo (by decide)).trans (by assumption)) (by first | assumption | exact (cpf_lo (by decide)).trans (by assumption)) H.size) hl.1 rfl (Nat.le_of_ble_eq_true rfl) rfl dL_law_749 ⟨⟨Nat.le_of_ble_eq_true rfl, Nat.le_of_ble_eq_true rfl⟩, Nat.le_of_ble_eq_true rfl, Nat.le_of_ble_eq_true rfl⟩) rfl rfl (fun r_3 _ H locs hw_4 hP hD hK hS => ?_)
  have hK : va_K D vwCl [(K, .int), (KS, .object "BarcodeWand$State"), (KC, .char), (KL, .long)] s := hK
  have hP : va_P D vwCl [(w, .inr (7, [.ref st, .ref hi, .ref re, .ref fo, .ref bu, .ref pa])), (st, .inr (6, [.ref la, .ref me, .ref li, .int 4, .int 0, .int 0])), (me, .inr (4, [.ref meA, .int 0])), (re, .inr (3, [.ref rd, .int 0, .ref rl, .int 0, .int 0, .int 0, .int 0, .int 0])), (rd, .inr (4, [.ref rdA, .int 0])), (rl, .inr (4, [.ref rlA, .int 0])), (mo, .inr (8, [.ref ms, .int 0, .ref mb, .int 0, .int 0, .ref mlk, .int 0, .ref mfd, .int (-1), .int 0, .int 0, .int 0])), (ms, .inl (K, 889, .inl (upd (fun _ => 0) 93 4)))] H := hP
  have hD : va_D A [(w, .inr (7, [.ref st, .ref hi, .ref re, .ref fo, .ref bu, .ref pa])), (st, .inr (6, [.ref la, .ref me, .ref li, .int 4, .int 0, .int 0])), (me, .inr (4, [.ref meA, .int 0])), (re, .inr (3, [.ref rd, .int 0, .ref rl, .int 0, .int 0, .int 0, .int 0, .int 0])), (rd, .inr (4, [.ref rdA, .int 0])), (rl, .inr (4, [.ref rlA, .int 0])), (mo, .inr (8, [.ref ms, .int 0, .ref mb, .int 0, .int 0, .ref mlk, .int 0, .ref mfd, .int (-1), .int 0, .int 0, .int 0])), (ms, .inl (K, 889, .inl (upd (fun _ => 0) 93 4)))] := hD
  have hw_4 : r_3 = 1 := hw_4
  have hw_4 := hw_4.symm
  subst hw_4
  refine k_nrm (y := 1) rfl ?_
  refine lv_icmp_eq (tgt := 1479) hx hb dL_law_752 (by decide) (fun _ => ?_) (fun c9 => absurd (by decide) c9)
  exact law_end C0 (by rw [hAe]; exact hS) (lv_sub hl [0, 4] rfl) (Nat.le_of_ble_eq_true rfl) (Nat.le_of_ble_eq_true rfl)
set_option maxHeartbeats 4000000 in
set_option maxRecDepth 100000 in
theorem law_c13 {p : Program} {l : Launch} {e : Env} {s : State} {m : MethodId} {below : List Frame} {meth : Method} {c : Code} {b : Nat} {xs : Nat → Int32} (hst : l.stackTraces = false) (D : va_G) (C0 : lw_At p s m meth c b 4 xs) (hG : k_G (fun q : Nat => s.heap.size ≤ q) s s.heap) {H : Heap} {locs : List Loc} {ls : Array Slot} (h : law_I D s b H locs ls) : W p l e room_1 s m #[Value.ref b] below meth c H locs 124 2208 (lw_Z below #[Value.ref b] s) (F0 m 757 ls []) := by
  have C1 := C0
  obtain ⟨hx, hb, hr, hml, hown, hts, hX, hbl, hlocks, hgv⟩ := C1
  have hown : s.vm.findClass RL = some m.cls := hown
  have ht : ∀ v9 ∈ wsA, v9.before #[Value.ref b] s = true := fun v9 h9 => hts v9 (wsA_tbl h9)
  have S0 : k_C p s m #[Value.ref b] c cL_law 7 RL := ⟨hx, hb, hml, hown, ht⟩
  have hbA : ¬ (fun q : Nat => s.heap.size ≤ q) b := Nat.not_le.mpr hbl
  have hA : ∀ q : Nat, s.heap.size ≤ q → (fun q : Nat => s.heap.size ≤ q) q := fun _ h9 => h9
  obtain ⟨y1, hy1⟩ : ∃ z9 : Int32, z9 = xs 1 := ⟨_, rfl⟩
  obtain ⟨y2, hy2⟩ : ∃ z9 : Int32, z9 = xs 2 := ⟨_, rfl⟩
  obtain ⟨y3, hy3⟩ : ∃ z9 : Int32, z9 = xs 3 := ⟨_, rfl⟩
  have hs0 : (upd (fun _ => 0) 93 4) 0 = 0 := rfl
  have hs51 : (upd (fun _ => 0) 93 4) 51 = 0 := rfl
  have hs93 : (upd (fun _ => 0) 93 4) 93 = 4 := rfl
  have hs94 : (upd (fun _ => 0) 93 4) 94 = 0 := rfl
  have hs125 : (upd (fun _ => 0) 93 4) 125 = 0 := rfl
  have hs126 : (upd (fun _ => 0) 93 4) 126 = 0 := rfl
  obtain ⟨w, st, la, ld, ldA, lz, lzA, me, meA, li, ln, lnA, ll, llA, lc, lcA, hi, ri, zst, zla, zld, zldA, zlz, zlzA, zme, zmeA, zli, zln, zlnA, zll, zllA, zlc, zlcA, re, rd, rdA, rl, rlA, fo, foA, bu, buA, pa, mo, ms, mb, mlk, mfd, out, rf, K, KS, KC, KL, hrf, hK, hP, hD, hS, hl⟩ := h
  have hl : lv_has ls 7 [(4, .int 0), (3, .ref out), (2, .ref mo), (1, .ref w), (0, .ref b)] := hl
  generalize hAe : (fun q : Nat => s.heap.size ≤ q) = A at hG hD hS hA hbA
  have hP : va_P D vwCl [(w, .inr (7, [.ref st, .ref hi, .ref re, .ref fo, .ref bu, .ref pa])), (st, .inr (6, [.ref la, .ref me, .ref li, .int 4, .int 0, .int 0])), (me, .inr (4, [.ref meA, .int 0])), (re, .inr (3, [.ref rd, .int 0, .ref rl, .int 0, .int 0, .int 0, .int 0, .int 0])), (rd, .inr (4, [.ref rdA, .int 0])), (rl, .inr (4, [.ref rlA, .int 0])), (mo, .inr (8, [.ref ms, .int 0, .ref mb, .int 0, .int 0, .ref mlk, .int 0, .ref mfd, .int 0, .int 0, .int 0, .int 0])), (ms, .inl (K, 889, .inl (upd (fun _ => 0) 93 4)))] H := hP.sub [0, 1, 7, 33, 34, 36, 43, 44] rfl
  have hD : va_D A [(w, .inr (7, [.ref st, .ref hi, .ref re, .ref fo, .ref bu, .ref pa])), (st, .inr (6, [.ref la, .ref me, .ref li, .int 4, .int 0, .int 0])), (me, .inr (4, [.ref meA, .int 0])), (re, .inr (3, [.ref rd, .int 0, .ref rl, .int 0, .int 0, .int 0, .int 0, .int 0])), (rd, .inr (4, [.ref rdA, .int 0])), (rl, .inr (4, [.ref rlA, .int 0])), (mo, .inr (8, [.ref ms, .int 0, .ref mb, .int 0, .int 0, .ref mlk, .int 0, .ref mfd, .int 0, .int 0, .int 0, .int 0])), (ms, .inl (K, 889, .inl (upd (fun _ => 0) 93 4)))] := hD.sub [0, 1, 7, 33, 34, 36, 43, 44] (by decide) rfl
  refine lv_aload_n hx hb dL_law_757 rfl (lv_at hl 3 rfl) ?_
  refine lv_aload_n hx hb dL_law_758 rfl (lv_at hl 4 rfl) ?_
  refine lv_iload hx hb dL_law_759 (lv_at hl 0 rfl) ?_
  refine lv_iconst (v := 1) hx hb dL_law_761 (by decide) ?_
  refine lv_iadd hx hb dL_law_762 ?_
  refine k_nrm (y := 1) (by decide) ?_
  refine va_sld hx hb hX hbl hbA hS (by unfold vp_in; decide) dL_law_763 ?_
  refine k_nrm (y := y1) (by rw [hy1]; rfl) ?_
  refine lv_if_eq (tgt := 771) hx hb dL_law_764 (by decide) (fun c_1 => ?_) (fun c_1 => ?_)
  · have hc9 := c_1
    refine lv_iconst (v := 0) hx hb dL_law_771 (by decide) ?_
    have ct := k_cut_of (wc := [(w, .inr (7, [.ref st, .ref hi, .ref re, .ref fo, .ref bu, .ref pa])), (st, .inr (6, [.ref la, .ref me, .ref li, .int 4, .int 0, .int 0])), (me, .inr (4, [.ref meA, .int 0])), (re, .inr (3, [.ref rd, .int 0, .ref rl, .int 0, .int 0, .int 0, .int 0, .int 0])), (rd, .inr (4, [.ref rdA, .int 0])), (rl, .inr (4, [.ref rlA, .int 0]))]) (wr := [(mo, .inr (8, [.ref ms, .int 0, .ref mb, .int 0, .int 0, .ref mlk, .int 0, .ref mfd, .int 0, .int 0, .int 0, .int 0])), (ms, .inl (K, 889, .inl (upd (fun _ => 0) 93 4)))]) (tc := []) hG hS hA hK hP hD [0, 1, 2, 3, 4, 5] [6, 7] [] rfl rfl (by decide) (by decide) (by decide) rfl
    refine k_endi (As := [.ref w, .int 0]) ct (k_runV (As := [.int 0]) (rest := []) S0 Lv_L_129 rfl (ci := 7) (q0 := 0) rfl rfl ct (c_W_reason l D w st hi re fo bu pa la me li 4 0 0 meA rd 0 rl 0 0 0 0 0 rdA 0 rlA 0 0 H.size) hl.1 rfl (Nat.le_of_ble_eq_true rfl) rfl dL_law_772 ⟨⟨Nat.le_of_ble_eq_true rfl, Nat.le_of_ble_eq_true rfl⟩, Nat.le_of_ble_eq_true rfl, Nat.le_of_ble_eq_true rfl⟩) rfl rfl (fun r_2 _ H locs hw_3 hP hD hK hS => ?_)
    have hK : va_K D vwCl [(K, .int), (KS, .object "BarcodeWand$State"), (KC, .char), (KL, .long)] s := hK
    have hP : va_P D vwCl [(mo, .inr (8, [.ref ms, .int 0, .ref mb, .int 0, .int 0, .ref mlk, .int 0, .ref mfd, .int 0, .int 0, .int 0, .int 0])), (ms, .inl (K, 889, .inl (upd (fun _ => 0) 93 4))), (w, .inr (7, [.ref st, .ref hi, .ref re, .ref fo, .ref bu, .ref pa])), (st, .inr (6, [.ref la, .ref me, .ref li, .int 4, .int 0, .int 0])), (me, .inr (4, [.ref meA, .int 0])), (re, .inr (3, [.ref rd, .int 0, .ref rl, .int 0, .int 0, .int 0, .int 0, .int 0])), (rd, .inr (4, [.ref rdA, .int 0])), (rl, .inr (4, [.ref rlA, .int 0]))] H := hP
    have hD : va_D A [(mo, .inr (8, [.ref ms, .int 0, .ref mb, .int 0, .int 0, .ref mlk, .int 0, .ref mfd, .int 0, .int 0, .int 0, .int 0])), (ms, .inl (K, 889, .inl (upd (fun _ => 0) 93 4))), (w, .inr (7, [.ref st, .ref hi, .ref re, .ref fo, .ref bu, .ref pa])), (st, .inr (6, [.ref la, .ref me, .ref li, .int 4, .int 0, .int 0])), (me, .inr (4, [.ref meA, .int 0])), (re, .inr (3, [.ref rd, .int 0, .ref rl, .int 0, .int 0, .int 0, .int 0, .int 0])), (rd, .inr (4, [.ref rdA, .int 0])), (rl, .inr (4, [.ref rlA, .int 0]))] := hD
    have hw_3 : r_2 = 1 := hw_3
    have hw_3 := hw_3.symm
    subst hw_3
    refine k_nrm (y := 1) rfl ?_
    refine lv_aload_n hx hb dL_law_775 rfl (lv_at hl 2 rfl) ?_
    refine lv_aload_n hx hb dL_law_776 rfl (lv_at hl 4 rfl) ?_
    refine lv_iload hx hb dL_law_777 (lv_at hl 0 rfl) ?_
    refine lv_iconst (v := 1) hx hb dL_law_779 (by decide) ?_
    refine lv_iadd hx hb dL_law_780 ?_
    refine k_nrm (y := 1) (by decide) ?_
    refine va_sld hx hb hX hbl hbA hS (by unfold vp_in; decide) dL_law_781 ?_
    refine k_nrm (y := y1) (by rw [hy1]; rfl) ?_
    refine lv_if_eq (tgt := 789) hx hb dL_law_782 (by decide) (fun c_4 => ?_) (fun c9 => absurd c_1 c9)
    refine lv_iconst (v := 0) hx hb dL_law_789 (by decide) ?_
    have ct := k_cut_of (wc := [(mo, .inr (8, [.ref ms, .int 0, .ref mb, .int 0, .int 0, .ref mlk, .int 0, .ref mfd, .int 0, .int 0, .int 0, .int 0])), (ms, .inl (K, 889, .inl (upd (fun _ => 0) 93 4)))]) (wr := [(w, .inr (7, [.ref st, .ref hi, .ref re, .ref fo, .ref bu, .ref pa])), (st, .inr (6, [.ref la, .ref me, .ref li, .int 4, .int 0, .int 0])), (me, .inr (4, [.ref meA, .int 0])), (re, .inr (3, [.ref rd, .int 0, .ref rl, .int 0, .int 0, .int 0, .int 0, .int 0])), (rd, .inr (4, [.ref rdA, .int 0])), (rl, .inr (4, [.ref rlA, .int 0]))]) (tc := [(K, .int)]) hG hS hA hK hP hD [0, 1] [2, 3, 4, 5, 6, 7] [0] rfl rfl (by decide) (by decide) (by decide) rfl
    refine k_endi (As := [.ref mo, .int 0]) ct (k_runV (As := [.int 0]) (rest := [.int 1]) S0 Lv_L_133 rfl (ci := 8) (q0 := 0) rfl rfl ct (c_M_reason l D mo ms 0 mb 0 mlk 0 mfd 0 0 0 0 K (upd (fun _ => 0) 93 4) 0 (by first | assumption | exact (cpf_lo (by decide)).trans (by assumption)) (by first | assumption | exact (cpf_lo (by decide)).trans (by assumption)) (by first | assumption | exact (cpf_lo (by decide)).trans (by assumption)) (by first | assumption | exact (cpf_lo (by decide)).trans (by assumption)) (by first | assumption | exact (cpf_lo (by decide)).trans (by assumption)) (by first | assumption | exact (cpf_lo (by decide)).trans (by assumption)) H.size) hl.1 rfl (Nat.le_of_ble_eq_true rfl) rfl dL_law_790 ⟨⟨Nat.le_of_ble_eq_true rfl, Nat.le_of_ble_eq_true rfl⟩, Nat.le_of_ble_eq_true rfl, Nat.le_of_ble_eq_true rfl⟩) rfl rfl (fun r_5 _ H locs hw_6 hP hD hK hS => ?_)
    have hK : va_K D vwCl [(K, .int), (KS, .object "BarcodeWand$State"), (KC, .char), (KL, .long)] s := hK
    have hP : va_P D vwCl [(w, .inr (7, [.ref st, .ref hi, .ref re, .ref fo, .ref bu, .ref pa])), (st, .inr (6, [.ref la, .ref me, .ref li, .int 4, .int 0, .int 0])), (me, .inr (4, [.ref meA, .int 0])), (re, .inr (3, [.ref rd, .int 0, .ref rl, .int 0, .int 0, .int 0, .int 0, .int 0])), (rd, .inr (4, [.ref rdA, .int 0])), (rl, .inr (4, [.ref rlA, .int 0])), (mo, .inr (8, [.ref ms, .int 0, .ref mb, .int 0, .int 0, .ref mlk, .int 0, .ref mfd, .int (-1), .int 0, .int 0, .int 0])), (ms, .inl (K, 889, .inl (upd (fun _ => 0) 93 4)))] H := hP
    have hD : va_D A [(w, .inr (7, [.ref st, .ref hi, .ref re, .ref fo, .ref bu, .ref pa])), (st, .inr (6, [.ref la, .ref me, .ref li, .int 4, .int 0, .int 0])), (me, .inr (4, [.ref meA, .int 0])), (re, .inr (3, [.ref rd, .int 0, .ref rl, .int 0, .int 0, .int 0, .int 0, .int 0])), (rd, .inr (4, [.ref rdA, .int 0])), (rl, .inr (4, [.ref rlA, .int 0])), (mo, .inr (8, [.ref ms, .int 0, .ref mb, .int 0, .int 0, .ref mlk, .int 0, .ref mfd, .int (-1), .int 0, .int 0, .int 0])), (ms, .inl (K, 889, .inl (upd (fun _ => 0) 93 4)))] := hD
    have hw_6 : r_5 = 1 := hw_6
    have hw_6 := hw_6.symm
    subst hw_6
    refine k_nrm (y := 1) rfl ?_
    refine lv_icmp_eq (tgt := 1479) hx hb dL_law_793 (by decide) (fun _ => ?_) (fun c9 => absurd (by decide) c9)
    exact law_end C0 (by rw [hAe]; exact hS) (lv_sub hl [0, 4] rfl) (Nat.le_of_ble_eq_true rfl) (Nat.le_of_ble_eq_true rfl)
  · have hc9 := c_1
    refine lv_iconst (v := 1) hx hb dL_law_767 (by decide) ?_
    refine lv_goto (tgt := 772) hx hb dL_law_768 (by decide) ?_
    have ct := k_cut_of (wc := [(w, .inr (7, [.ref st, .ref hi, .ref re, .ref fo, .ref bu, .ref pa])), (st, .inr (6, [.ref la, .ref me, .ref li, .int 4, .int 0, .int 0])), (me, .inr (4, [.ref meA, .int 0])), (re, .inr (3, [.ref rd, .int 0, .ref rl, .int 0, .int 0, .int 0, .int 0, .int 0])), (rd, .inr (4, [.ref rdA, .int 0])), (rl, .inr (4, [.ref rlA, .int 0]))]) (wr := [(mo, .inr (8, [.ref ms, .int 0, .ref mb, .int 0, .int 0, .ref mlk, .int 0, .ref mfd, .int 0, .int 0, .int 0, .int 0])), (ms, .inl (K, 889, .inl (upd (fun _ => 0) 93 4)))]) (tc := []) hG hS hA hK hP hD [0, 1, 2, 3, 4, 5] [6, 7] [] rfl rfl (by decide) (by decide) (by decide) rfl
    refine k_endi (As := [.ref w, .int 1]) ct (k_runV (As := [.int 1]) (rest := []) S0 Lv_L_129 rfl (ci := 7) (q0 := 0) rfl rfl ct (c_W_reason l D w st hi re fo bu pa la me li 4 0 0 meA rd 0 rl 0 0 0 0 0 rdA 0 rlA 0 1 H.size) hl.1 rfl (Nat.le_of_ble_eq_true rfl) rfl dL_law_772 ⟨⟨Nat.le_of_ble_eq_true rfl, Nat.le_of_ble_eq_true rfl⟩, Nat.le_of_ble_eq_true rfl, Nat.le_of_ble_eq_true rfl⟩) rfl rfl (fun r_7 _ H locs hw_8 hP hD hK hS => ?_)
    have hK : va_K D vwCl [(K, .int), (KS, .object "BarcodeWand$State"), (KC, .char), (KL, .long)] s := hK
    have hP : va_P D vwCl [(mo, .inr (8, [.ref ms, .int 0, .ref mb, .int 0, .int 0, .ref mlk, .int 0, .ref mfd, .int 0, .int 0, .int 0, .int 0])), (ms, .inl (K, 889, .inl (upd (fun _ => 0) 93 4))), (w, .inr (7, [.ref st, .ref hi, .ref re, .ref fo, .ref bu, .ref pa])), (st, .inr (6, [.ref la, .ref me, .ref li, .int 4, .int 0, .int 0])), (me, .inr (4, [.ref meA, .int 0])), (re, .inr (3, [.ref rd, .int 0, .ref rl, .int 0, .int 0, .int 0, .int 0, .int 0])), (rd, .inr (4, [.ref rdA, .int 0])), (rl, .inr (4, [.ref rlA, .int 0]))] H := hP
    have hD : va_D A [(mo, .inr (8, [.ref ms, .int 0, .ref mb, .int 0, .int 0, .ref mlk, .int 0, .ref mfd, .int 0, .int 0, .int 0, .int 0])), (ms, .inl (K, 889, .inl (upd (fun _ => 0) 93 4))), (w, .inr (7, [.ref st, .ref hi, .ref re, .ref fo, .ref bu, .ref pa])), (st, .inr (6, [.ref la, .ref me, .ref li, .int 4, .int 0, .int 0])), (me, .inr (4, [.ref meA, .int 0])), (re, .inr (3, [.ref rd, .int 0, .ref rl, .int 0, .int 0, .int 0, .int 0, .int 0])), (rd, .inr (4, [.ref rdA, .int 0])), (rl, .inr (4, [.ref rlA, .int 0]))] := hD
    have hw_8 : r_7 = 1 := hw_8
    have hw_8 := hw_8.symm
    subst hw_8
    refine k_nrm (y := 1) rfl ?_
    refine lv_aload_n hx hb dL_law_775 rfl (lv_at hl 2 rfl) ?_
    refine lv_aload_n hx hb dL_law_776 rfl (lv_at hl 4 rfl) ?_
    refine lv_iload hx hb dL_law_777 (lv_at hl 0 rfl) ?_
    refine lv_iconst (v := 1) hx hb dL_law_779 (by decide) ?_
    refine lv_iadd hx hb dL_law_780 ?_
    refine k_nrm (y := 1) (by decide) ?_
    refine va_sld hx hb hX hbl hbA hS (by unfold vp_in; decide) dL_law_781 ?_
    refine k_nrm (y := y1) (by rw [hy1]; rfl) ?_
    refine lv_if_eq (tgt := 789) hx hb dL_law_782 (by decide) (fun c9 => absurd c9 c_1) (fun c_9 => ?_)
    refine lv_iconst (v := 1) hx hb dL_law_785 (by decide) ?_
    refine lv_goto (tgt := 790) hx hb dL_law_786 (by decide) ?_
    have ct := k_cut_of (wc := [(mo, .inr (8, [.ref ms, .int 0, .ref mb, .int 0, .int 0, .ref mlk, .int 0, .ref mfd, .int 0, .int 0, .int 0, .int 0])), (ms, .inl (K, 889, .inl (upd (fun _ => 0) 93 4)))]) (wr := [(w, .inr (7, [.ref st, .ref hi, .ref re, .ref fo, .ref bu, .ref pa])), (st, .inr (6, [.ref la, .ref me, .ref li, .int 4, .int 0, .int 0])), (me, .inr (4, [.ref meA, .int 0])), (re, .inr (3, [.ref rd, .int 0, .ref rl, .int 0, .int 0, .int 0, .int 0, .int 0])), (rd, .inr (4, [.ref rdA, .int 0])), (rl, .inr (4, [.ref rlA, .int 0]))]) (tc := [(K, .int)]) hG hS hA hK hP hD [0, 1] [2, 3, 4, 5, 6, 7] [0] rfl rfl (by decide) (by decide) (by decide) rfl
    refine k_endi (As := [.ref mo, .int 1]) ct (k_runV (As := [.int 1]) (rest := [.int 1]) S0 Lv_L_133 rfl (ci := 8) (q0 := 0) rfl rfl ct (c_M_reason l D mo ms 0 mb 0 mlk 0 mfd 0 0 0 0 K (upd (fun _ => 0) 93 4) 1 (by first | assumption | exact (cpf_lo (by decide)).trans (by assumption)) (by first | assumption | exact (cpf_lo (by decide)).trans (by assumption)) (by first | assumption | exact (cpf_lo (by decide)).trans (by assumption)) (by first | assumption | exact (cpf_lo (by decide)).trans (by assumption)) (by first | assumption | exact (cpf_lo (by decide)).trans (by assumption)) (by first | assumption | exact (cpf_lo (by decide)).trans (by assumption)) H.size) hl.1 rfl (Nat.le_of_ble_eq_true rfl) rfl dL_law_790 ⟨⟨Nat.le_of_ble_eq_true rfl, Nat.le_of_ble_eq_true rfl⟩, Nat.le_of_ble_eq_true rfl, Nat.le_of_ble_eq_true rfl⟩) rfl rfl (fun r_10 _ H locs hw_11 hP hD hK hS => ?_)
    have hK : va_K D vwCl [(K, .int), (KS, .object "BarcodeWand$State"), (KC, .char), (KL, .long)] s := hK
    have hP : va_P D vwCl [(w, .inr (7, [.ref st, .ref hi, .ref re, .ref fo, .ref bu, .ref pa])), (st, .inr (6, [.ref la, .ref me, .ref li, .int 4, .int 0, .int 0])), (me, .inr (4, [.ref meA, .int 0])), (re, .inr (3, [.ref rd, .int 0, .ref rl, .int 0, .int 0, .int 0, .int 0, .int 0])), (rd, .inr (4, [.ref rdA, .int 0])), (rl, .inr (4, [.ref rlA, .int 0])), (mo, .inr (8, [.ref ms, .int 0, .ref mb, .int 0, .int 0, .ref mlk, .int 0, .ref mfd, .int (-1), .int 0, .int 0, .int 0])), (ms, .inl (K, 889, .inl (upd (fun _ => 0) 93 4)))] H := hP
    have hD : va_D A [(w, .inr (7, [.ref st, .ref hi, .ref re, .ref fo, .ref bu, .ref pa])), (st, .inr (6, [.ref la, .ref me, .ref li, .int 4, .int 0, .int 0])), (me, .inr (4, [.ref meA, .int 0])), (re, .inr (3, [.ref rd, .int 0, .ref rl, .int 0, .int 0, .int 0, .int 0, .int 0])), (rd, .inr (4, [.ref rdA, .int 0])), (rl, .inr (4, [.ref rlA, .int 0])), (mo, .inr (8, [.ref ms, .int 0, .ref mb, .int 0, .int 0, .ref mlk, .int 0, .ref mfd, .int (-1), .int 0, .int 0, .int 0])), (ms, .inl (K, 889, .inl (upd (fun _ => 0) 93 4)))] := hD
    have hw_11 : r_10 = 1 := hw_11
    have hw_11 := hw_11.symm
    subst hw_11
    refine k_nrm (y := 1) rfl ?_
    refine lv_icmp_eq (tgt := 1479) hx hb dL_law_793 (by decide) (fun _ => ?_) (fun c9 => absurd (by decide) c9)
    exact law_end C0 (by rw [hAe]; exact hS) (lv_sub hl [0, 4] rfl) (Nat.le_of_ble_eq_true rfl) (Nat.le_of_ble_eq_true rfl)
set_option maxHeartbeats 4000000 in
set_option maxRecDepth 100000 in
theorem law_c14 {p : Program} {l : Launch} {e : Env} {s : State} {m : MethodId} {below : List Frame} {meth : Method} {c : Code} {b : Nat} {xs : Nat → Int32} (hst : l.stackTraces = false) (D : va_G) (C0 : lw_At p s m meth c b 4 xs) (hG : k_G (fun q : Nat => s.heap.size ≤ q) s s.heap) {H : Heap} {locs : List Loc} {ls : Array Slot} (h : law_I D s b H locs ls) : W p l e room_1 s m #[Value.ref b] below meth c H locs 124 2208 (lw_Z below #[Value.ref b] s) (F0 m 798 ls []) := by
  have C1 := C0
  obtain ⟨hx, hb, hr, hml, hown, hts, hX, hbl, hlocks, hgv⟩ := C1
  have hown : s.vm.findClass RL = some m.cls := hown
  have ht : ∀ v9 ∈ wsA, v9.before #[Value.ref b] s = true := fun v9 h9 => hts v9 (wsA_tbl h9)
  have S0 : k_C p s m #[Value.ref b] c cL_law 7 RL := ⟨hx, hb, hml, hown, ht⟩
  have hbA : ¬ (fun q : Nat => s.heap.size ≤ q) b := Nat.not_le.mpr hbl
  have hA : ∀ q : Nat, s.heap.size ≤ q → (fun q : Nat => s.heap.size ≤ q) q := fun _ h9 => h9
  obtain ⟨y1, hy1⟩ : ∃ z9 : Int32, z9 = xs 1 := ⟨_, rfl⟩
  obtain ⟨y2, hy2⟩ : ∃ z9 : Int32, z9 = xs 2 := ⟨_, rfl⟩
  obtain ⟨y3, hy3⟩ : ∃ z9 : Int32, z9 = xs 3 := ⟨_, rfl⟩
  have hs0 : (upd (fun _ => 0) 93 4) 0 = 0 := rfl
  have hs51 : (upd (fun _ => 0) 93 4) 51 = 0 := rfl
  have hs93 : (upd (fun _ => 0) 93 4) 93 = 4 := rfl
  have hs94 : (upd (fun _ => 0) 93 4) 94 = 0 := rfl
  have hs125 : (upd (fun _ => 0) 93 4) 125 = 0 := rfl
  have hs126 : (upd (fun _ => 0) 93 4) 126 = 0 := rfl
  obtain ⟨w, st, la, ld, ldA, lz, lzA, me, meA, li, ln, lnA, ll, llA, lc, lcA, hi, ri, zst, zla, zld, zldA, zlz, zlzA, zme, zmeA, zli, zln, zlnA, zll, zllA, zlc, zlcA, re, rd, rdA, rl, rlA, fo, foA, bu, buA, pa, mo, ms, mb, mlk, mfd, out, rf, K, KS, KC, KL, hrf, hK, hP, hD, hS, hl⟩ := h
  have hl : lv_has ls 7 [(4, .int 0), (3, .ref out), (2, .ref mo), (1, .ref w), (0, .ref b)] := hl
  generalize hAe : (fun q : Nat => s.heap.size ≤ q) = A at hG hD hS hA hbA
  have hP : va_P D vwCl [(w, .inr (7, [.ref st, .ref hi, .ref re, .ref fo, .ref bu, .ref pa])), (st, .inr (6, [.ref la, .ref me, .ref li, .int 4, .int 0, .int 0])), (me, .inr (4, [.ref meA, .int 0])), (re, .inr (3, [.ref rd, .int 0, .ref rl, .int 0, .int 0, .int 0, .int 0, .int 0])), (rd, .inr (4, [.ref rdA, .int 0])), (rl, .inr (4, [.ref rlA, .int 0])), (mo, .inr (8, [.ref ms, .int 0, .ref mb, .int 0, .int 0, .ref mlk, .int 0, .ref mfd, .int 0, .int 0, .int 0, .int 0])), (ms, .inl (K, 889, .inl (upd (fun _ => 0) 93 4))), (out, .inl (KL, 1, .inr (.inl (fun _ => 0))))] H := hP.sub [0, 1, 7, 33, 34, 36, 43, 44, 48] rfl
  have hD : va_D A [(w, .inr (7, [.ref st, .ref hi, .ref re, .ref fo, .ref bu, .ref pa])), (st, .inr (6, [.ref la, .ref me, .ref li, .int 4, .int 0, .int 0])), (me, .inr (4, [.ref meA, .int 0])), (re, .inr (3, [.ref rd, .int 0, .ref rl, .int 0, .int 0, .int 0, .int 0, .int 0])), (rd, .inr (4, [.ref rdA, .int 0])), (rl, .inr (4, [.ref rlA, .int 0])), (mo, .inr (8, [.ref ms, .int 0, .ref mb, .int 0, .int 0, .ref mlk, .int 0, .ref mfd, .int 0, .int 0, .int 0, .int 0])), (ms, .inl (K, 889, .inl (upd (fun _ => 0) 93 4))), (out, .inl (KL, 1, .inr (.inl (fun _ => 0))))] := hD.sub [0, 1, 7, 33, 34, 36, 43, 44, 48] (by decide) rfl
  refine lv_aload_n hx hb dL_law_798 rfl (lv_at hl 3 rfl) ?_
  refine lv_aload_n hx hb dL_law_799 rfl (lv_at hl 4 rfl) ?_
  refine lv_iload hx hb dL_law_800 (lv_at hl 0 rfl) ?_
  refine lv_iconst (v := 1) hx hb dL_law_802 (by decide) ?_
  refine lv_iadd hx hb dL_law_803 ?_
  refine k_nrm (y := 1) (by decide) ?_
  refine va_sld hx hb hX hbl hbA hS (by unfold vp_in; decide) dL_law_804 ?_
  refine k_nrm (y := y1) (by rw [hy1]; rfl) ?_
  refine lv_aload_n hx hb dL_law_805 rfl (lv_at hl 1 rfl) ?_
  have ct := k_cut_of (wc := [(w, .inr (7, [.ref st, .ref hi, .ref re, .ref fo, .ref bu, .ref pa])), (st, .inr (6, [.ref la, .ref me, .ref li, .int 4, .int 0, .int 0])), (me, .inr (4, [.ref meA, .int 0])), (re, .inr (3, [.ref rd, .int 0, .ref rl, .int 0, .int 0, .int 0, .int 0, .int 0])), (rd, .inr (4, [.ref rdA, .int 0])), (rl, .inr (4, [.ref rlA, .int 0])), (out, .inl (KL, 1, .inr (.inl (fun _ => 0))))]) (wr := [(mo, .inr (8, [.ref ms, .int 0, .ref mb, .int 0, .int 0, .ref mlk, .int 0, .ref mfd, .int 0, .int 0, .int 0, .int 0])), (ms, .inl (K, 889, .inl (upd (fun _ => 0) 93 4)))]) (tc := [(KL, .long)]) hG hS hA hK hP hD [0, 1, 2, 3, 4, 5, 8] [6, 7] [3] rfl rfl (by decide) (by decide) (by decide) rfl
  refine k_endi (As := [.ref w, .int y1, .ref out]) ct (k_runSW (As := [.ref w, .int y1, .ref out]) (rest := []) S0 Ls_L_134 ct (c_L_digit l hst D w st hi re fo bu pa la me li 4 0 0 meA rd 0 rl 0 0 0 0 0 rdA 0 rlA 0 y1 out KL (fun _ => 0) H.size) hl.1 rfl (Nat.le_of_ble_eq_true rfl) rfl dL_law_806 ⟨⟨Nat.le_of_ble_eq_true rfl, Nat.le_of_ble_eq_true rfl⟩, Nat.le_of_ble_eq_true rfl, Nat.le_of_ble_eq_true rfl⟩) rfl rfl (fun r_1 og_2 H locs hw_3 hP hD hK hS => ?_)
  have hK : va_K D vwCl [(K, .int), (KS, .object "BarcodeWand$State"), (KC, .char), (KL, .long)] s := hK
  have hP : va_P D vwCl [(mo, .inr (8, [.ref ms, .int 0, .ref mb, .int 0, .int 0, .ref mlk, .int 0, .ref mfd, .int 0, .int 0, .int 0, .int 0])), (ms, .inl (K, 889, .inl (upd (fun _ => 0) 93 4))), (out, .inl (KL, 1, .inr (.inl og_2)))] H := hP
  have hD : va_D A [(mo, .inr (8, [.ref ms, .int 0, .ref mb, .int 0, .int 0, .ref mlk, .int 0, .ref mfd, .int 0, .int 0, .int 0, .int 0])), (ms, .inl (K, 889, .inl (upd (fun _ => 0) 93 4))), (out, .inl (KL, 1, .inr (.inl og_2)))] := hD
  rcases hw_3 with ⟨c_4, rfl, c_5⟩ | ⟨c_6, rfl⟩
  · skip
    refine lv_istore (lv' := [(5, .int 0), (4, .int 0), (3, .ref out), (2, .ref mo), (1, .ref w), (0, .ref b)]) hx hb dL_law_809 hl (by decide) rfl (fun ls hl => ?_)
    refine lv_aload_n hx hb dL_law_811 rfl (lv_at hl 3 rfl) ?_
    refine lv_aload_n hx hb dL_law_812 rfl (lv_at hl 5 rfl) ?_
    refine lv_iload hx hb dL_law_813 (lv_at hl 1 rfl) ?_
    refine lv_iconst (v := 1) hx hb dL_law_815 (by decide) ?_
    refine lv_iadd hx hb dL_law_816 ?_
    refine k_nrm (y := 1) (by decide) ?_
    refine va_sld hx hb hX hbl hbA hS (by unfold vp_in; decide) dL_law_817 ?_
    refine k_nrm (y := y1) (by rw [hy1]; rfl) ?_
    have ct := k_cut_of (wc := [(mo, .inr (8, [.ref ms, .int 0, .ref mb, .int 0, .int 0, .ref mlk, .int 0, .ref mfd, .int 0, .int 0, .int 0, .int 0])), (ms, .inl (K, 889, .inl (upd (fun _ => 0) 93 4)))]) (wr := [(out, .inl (KL, 1, .inr (.inl og_2)))]) (tc := [(K, .int)]) hG hS hA hK hP hD [0, 1] [2] [0] rfl rfl (by decide) (by decide) (by decide) rfl
    refine k_endi (As := [.ref mo, .int y1]) ct (k_runV (As := [.int y1]) (rest := []) S0 Lv_L_136 rfl (ci := 8) (q0 := 0) rfl rfl ct (c_M_digit l D mo ms 0 mb 0 mlk 0 mfd 0 0 0 0 K (upd (fun _ => 0) 93 4) y1 (by first | assumption | exact (cpf_lo (by decide)).trans (by assumption)) (by first | assumption | exact (cpf_lo (by decide)).trans (by assumption)) (by first | assumption | exact (cpf_lo (by decide)).trans (by assumption)) (by first | assumption | exact (cpf_lo (by decide)).trans (by assumption)) (by first | assumption | exact (cpf_lo (by decide)).trans (by assumption)) (by first | assumption | exact (cpf_lo (by decide)).trans (by assumption)) H.size) hl.1 rfl (Nat.le_of_ble_eq_true rfl) rfl dL_law_818 ⟨⟨Nat.le_of_ble_eq_true rfl, Nat.le_of_ble_eq_true rfl⟩, Nat.le_of_ble_eq_true rfl, Nat.le_of_ble_eq_true rfl⟩) rfl rfl (fun r_7 u H locs hw_11 hP hD hK hS => ?_)
    obtain ⟨th1v_8, ml1v_9, mf1v_10⟩ := u
    have hK : va_K D vwCl [(K, .int), (KS, .object "BarcodeWand$State"), (KC, .char), (KL, .long)] s := hK
    have hP : va_P D vwCl [(out, .inl (KL, 1, .inr (.inl og_2))), (mo, .inr (8, [.ref ms, .int 0, .ref mb, .int 0, .int th1v_8, .ref mlk, .int ml1v_9, .ref mfd, .int mf1v_10, .int 0, .int 0, .int 0])), (ms, .inl (K, 889, .inl (upd (fun _ => 0) 93 4)))] H := hP
    have hD : va_D A [(out, .inl (KL, 1, .inr (.inl og_2))), (mo, .inr (8, [.ref ms, .int 0, .ref mb, .int 0, .int th1v_8, .ref mlk, .int ml1v_9, .ref mfd, .int mf1v_10, .int 0, .int 0, .int 0])), (ms, .inl (K, 889, .inl (upd (fun _ => 0) 93 4)))] := hD
    rcases hw_11 with ⟨c_12, rfl, rfl⟩ | ⟨c_13, rfl⟩
    · skip
      refine lv_istore (lv' := [(6, .int (-1)), (5, .int 0), (4, .int 0), (3, .ref out), (2, .ref mo), (1, .ref w), (0, .ref b)]) hx hb dL_law_821 hl (by decide) rfl (fun ls hl => ?_)
      refine lv_aload_n hx hb dL_law_823 rfl (lv_at hl 4 rfl) ?_
      have ct := k_cut_of (wc := [(mo, .inr (8, [.ref ms, .int 0, .ref mb, .int 0, .int 0, .ref mlk, .int ml1v_9, .ref mfd, .int mf1v_10, .int 0, .int 0, .int 0]))]) (wr := [(out, .inl (KL, 1, .inr (.inl og_2))), (ms, .inl (K, 889, .inl (upd (fun _ => 0) 93 4)))]) (tc := []) hG hS hA hK hP hD [1] [0, 2] [] rfl rfl (by decide) (by decide) (by decide) rfl
      refine k_endi (As := [.ref mo]) ct (k_runV (As := []) (rest := []) S0 Lv_L_83 rfl (ci := 8) (q0 := 0) rfl rfl ct (c_M_thrown2 l D mo ms 0 mb 0 0 mlk ml1v_9 mfd mf1v_10 0 0 0 H.size) hl.1 rfl (Nat.le_of_ble_eq_true rfl) rfl dL_law_824 ⟨⟨Nat.le_of_ble_eq_true rfl, Nat.le_of_ble_eq_true rfl⟩, Nat.le_of_ble_eq_true rfl, Nat.le_of_ble_eq_true rfl⟩) rfl rfl (fun r_14 _ H locs hw_15 hP hD hK hS => ?_)
      have hK : va_K D vwCl [(K, .int), (KS, .object "BarcodeWand$State"), (KC, .char), (KL, .long)] s := hK
      have hP : va_P D vwCl [(out, .inl (KL, 1, .inr (.inl og_2))), (ms, .inl (K, 889, .inl (upd (fun _ => 0) 93 4))), (mo, .inr (8, [.ref ms, .int 0, .ref mb, .int 0, .int 0, .ref mlk, .int ml1v_9, .ref mfd, .int mf1v_10, .int 0, .int 0, .int 0]))] H := hP
      have hD : va_D A [(out, .inl (KL, 1, .inr (.inl og_2))), (ms, .inl (K, 889, .inl (upd (fun _ => 0) 93 4))), (mo, .inr (8, [.ref ms, .int 0, .ref mb, .int 0, .int 0, .ref mlk, .int ml1v_9, .ref mfd, .int mf1v_10, .int 0, .int 0, .int 0]))] := hD
      have hw_15 : r_14 = 0 := hw_15
      have hw_15 := hw_15.symm
      subst hw_15
      refine k_nrm (y := 0) rfl ?_
      refine lv_iload hx hb dL_law_827 (lv_at hl 1 rfl) ?_
      refine lv_icmp_eq (tgt := 834) hx hb dL_law_829 (by decide) (fun _ => ?_) (fun c9 => absurd (by decide) c9)
      refine lv_iload hx hb dL_law_834 (lv_at hl 1 rfl) ?_
      refine lv_if_ne (tgt := 851) hx hb dL_law_836 (by decide) (fun c9 => absurd (by decide) c9) (fun _ => ?_)
      refine lv_aload_n hx hb dL_law_839 rfl (lv_at hl 3 rfl) ?_
      refine lv_iconst (v := 0) hx hb dL_law_840 (by decide) ?_
      refine va_lald hx hb hK hP 0 3 rfl rfl (by unfold vp_in; decide) dL_law_841 ?_
      refine k_nrml (y := (-1)) ((show og_2 (0 : Int32).toNatClampNeg = (-1 : Int32).toInt64 from c_5).trans (by decide)) ?_
      refine lv_iload hx hb dL_law_842 (lv_at hl 0 rfl) ?_
      refine lv_i2l (v := (-1)) hx hb dL_law_844 (by decide) ?_
      refine W.lcmp hx hb dL_law_845 ?_
      refine k_nrm (y := 0) (by decide) ?_
      refine lv_if_eq (tgt := 851) hx hb dL_law_846 (by decide) (fun _ => ?_) (fun c9 => absurd (by decide) c9)
      refine lv_goto (tgt := 1479) hx hb dL_law_851 (by decide) ?_
      exact law_end C0 (by rw [hAe]; exact hS) (lv_sub hl [2, 6] rfl) (Nat.le_of_ble_eq_true rfl) (Nat.le_of_ble_eq_true rfl)
    · skip
      exact absurd c_4 c_13
  · skip
    refine lv_istore (lv' := [(5, .int 1), (4, .int 0), (3, .ref out), (2, .ref mo), (1, .ref w), (0, .ref b)]) hx hb dL_law_809 hl (by decide) rfl (fun ls hl => ?_)
    refine lv_aload_n hx hb dL_law_811 rfl (lv_at hl 3 rfl) ?_
    refine lv_aload_n hx hb dL_law_812 rfl (lv_at hl 5 rfl) ?_
    refine lv_iload hx hb dL_law_813 (lv_at hl 1 rfl) ?_
    refine lv_iconst (v := 1) hx hb dL_law_815 (by decide) ?_
    refine lv_iadd hx hb dL_law_816 ?_
    refine k_nrm (y := 1) (by decide) ?_
    refine va_sld hx hb hX hbl hbA hS (by unfold vp_in; decide) dL_law_817 ?_
    refine k_nrm (y := y1) (by rw [hy1]; rfl) ?_
    have ct := k_cut_of (wc := [(mo, .inr (8, [.ref ms, .int 0, .ref mb, .int 0, .int 0, .ref mlk, .int 0, .ref mfd, .int 0, .int 0, .int 0, .int 0])), (ms, .inl (K, 889, .inl (upd (fun _ => 0) 93 4)))]) (wr := [(out, .inl (KL, 1, .inr (.inl og_2)))]) (tc := [(K, .int)]) hG hS hA hK hP hD [0, 1] [2] [0] rfl rfl (by decide) (by decide) (by decide) rfl
    refine k_endi (As := [.ref mo, .int y1]) ct (k_runV (As := [.int y1]) (rest := []) S0 Lv_L_136 rfl (ci := 8) (q0 := 0) rfl rfl ct (c_M_digit l D mo ms 0 mb 0 mlk 0 mfd 0 0 0 0 K (upd (fun _ => 0) 93 4) y1 (by first | assumption | exact (cpf_lo (by decide)).trans (by assumption)) (by first | assumption | exact (cpf_lo (by decide)).trans (by assumption)) (by first | assumption | exact (cpf_lo (by decide)).trans (by assumption)) (by first | assumption | exact (cpf_lo (by decide)).trans (by assumption)) (by first | assumption | exact (cpf_lo (by decide)).trans (by assumption)) (by first | assumption | exact (cpf_lo (by decide)).trans (by assumption)) H.size) hl.1 rfl (Nat.le_of_ble_eq_true rfl) rfl dL_law_818 ⟨⟨Nat.le_of_ble_eq_true rfl, Nat.le_of_ble_eq_true rfl⟩, Nat.le_of_ble_eq_true rfl, Nat.le_of_ble_eq_true rfl⟩) rfl rfl (fun r_16 u H locs hw_20 hP hD hK hS => ?_)
    obtain ⟨th1v_17, ml1v_18, mf1v_19⟩ := u
    have hK : va_K D vwCl [(K, .int), (KS, .object "BarcodeWand$State"), (KC, .char), (KL, .long)] s := hK
    have hP : va_P D vwCl [(out, .inl (KL, 1, .inr (.inl og_2))), (mo, .inr (8, [.ref ms, .int 0, .ref mb, .int 0, .int th1v_17, .ref mlk, .int ml1v_18, .ref mfd, .int mf1v_19, .int 0, .int 0, .int 0])), (ms, .inl (K, 889, .inl (upd (fun _ => 0) 93 4)))] H := hP
    have hD : va_D A [(out, .inl (KL, 1, .inr (.inl og_2))), (mo, .inr (8, [.ref ms, .int 0, .ref mb, .int 0, .int th1v_17, .ref mlk, .int ml1v_18, .ref mfd, .int mf1v_19, .int 0, .int 0, .int 0])), (ms, .inl (K, 889, .inl (upd (fun _ => 0) 93 4)))] := hD
    rcases hw_20 with ⟨c_21, rfl, rfl⟩ | ⟨c_22, rfl⟩
    · skip
      exact absurd c_21 c_6
    · skip
      refine lv_istore (lv' := [(6, .int r_16), (5, .int 1), (4, .int 0), (3, .ref out), (2, .ref mo), (1, .ref w), (0, .ref b)]) hx hb dL_law_821 hl (by decide) rfl (fun ls hl => ?_)
      refine lv_aload_n hx hb dL_law_823 rfl (lv_at hl 4 rfl) ?_
      have ct := k_cut_of (wc := [(mo, .inr (8, [.ref ms, .int 0, .ref mb, .int 0, .int 1, .ref mlk, .int ml1v_18, .ref mfd, .int mf1v_19, .int 0, .int 0, .int 0]))]) (wr := [(out, .inl (KL, 1, .inr (.inl og_2))), (ms, .inl (K, 889, .inl (upd (fun _ => 0) 93 4)))]) (tc := []) hG hS hA hK hP hD [1] [0, 2] [] rfl rfl (by decide) (by decide) (by decide) rfl
      refine k_endi (As := [.ref mo]) ct (k_runV (As := []) (rest := []) S0 Lv_L_83 rfl (ci := 8) (q0 := 0) rfl rfl ct (c_M_thrown2 l D mo ms 0 mb 0 1 mlk ml1v_18 mfd mf1v_19 0 0 0 H.size) hl.1 rfl (Nat.le_of_ble_eq_true rfl) rfl dL_law_824 ⟨⟨Nat.le_of_ble_eq_true rfl, Nat.le_of_ble_eq_true rfl⟩, Nat.le_of_ble_eq_true rfl, Nat.le_of_ble_eq_true rfl⟩) rfl rfl (fun r_23 _ H locs hw_24 hP hD hK hS => ?_)
      have hK : va_K D vwCl [(K, .int), (KS, .object "BarcodeWand$State"), (KC, .char), (KL, .long)] s := hK
      have hP : va_P D vwCl [(out, .inl (KL, 1, .inr (.inl og_2))), (ms, .inl (K, 889, .inl (upd (fun _ => 0) 93 4))), (mo, .inr (8, [.ref ms, .int 0, .ref mb, .int 0, .int 1, .ref mlk, .int ml1v_18, .ref mfd, .int mf1v_19, .int 0, .int 0, .int 0]))] H := hP
      have hD : va_D A [(out, .inl (KL, 1, .inr (.inl og_2))), (ms, .inl (K, 889, .inl (upd (fun _ => 0) 93 4))), (mo, .inr (8, [.ref ms, .int 0, .ref mb, .int 0, .int 1, .ref mlk, .int ml1v_18, .ref mfd, .int mf1v_19, .int 0, .int 0, .int 0]))] := hD
      have hw_24 : r_23 = 1 := hw_24
      have hw_24 := hw_24.symm
      subst hw_24
      refine k_nrm (y := 1) rfl ?_
      refine lv_iload hx hb dL_law_827 (lv_at hl 1 rfl) ?_
      refine lv_icmp_eq (tgt := 834) hx hb dL_law_829 (by decide) (fun _ => ?_) (fun c9 => absurd (by decide) c9)
      refine lv_iload hx hb dL_law_834 (lv_at hl 1 rfl) ?_
      refine lv_if_ne (tgt := 851) hx hb dL_law_836 (by decide) (fun _ => ?_) (fun c9 => absurd c9 (by decide))
      refine lv_goto (tgt := 1479) hx hb dL_law_851 (by decide) ?_
      exact law_end C0 (by rw [hAe]; exact hS) (lv_sub hl [2, 6] rfl) (Nat.le_of_ble_eq_true rfl) (Nat.le_of_ble_eq_true rfl)
set_option maxHeartbeats 4000000 in
set_option maxRecDepth 100000 in
theorem law_c15 {p : Program} {l : Launch} {e : Env} {s : State} {m : MethodId} {below : List Frame} {meth : Method} {c : Code} {b : Nat} {xs : Nat → Int32} (hst : l.stackTraces = false) (D : va_G) (C0 : lw_At p s m meth c b 4 xs) (hG : k_G (fun q : Nat => s.heap.size ≤ q) s s.heap) {H : Heap} {locs : List Loc} {ls : Array Slot} (h : law_I D s b H locs ls) : W p l e room_1 s m #[Value.ref b] below meth c H locs 124 2208 (lw_Z below #[Value.ref b] s) (F0 m 854 ls []) := by
  have C1 := C0
  obtain ⟨hx, hb, hr, hml, hown, hts, hX, hbl, hlocks, hgv⟩ := C1
  have hown : s.vm.findClass RL = some m.cls := hown
  have ht : ∀ v9 ∈ wsA, v9.before #[Value.ref b] s = true := fun v9 h9 => hts v9 (wsA_tbl h9)
  have S0 : k_C p s m #[Value.ref b] c cL_law 7 RL := ⟨hx, hb, hml, hown, ht⟩
  have hbA : ¬ (fun q : Nat => s.heap.size ≤ q) b := Nat.not_le.mpr hbl
  have hA : ∀ q : Nat, s.heap.size ≤ q → (fun q : Nat => s.heap.size ≤ q) q := fun _ h9 => h9
  obtain ⟨y1, hy1⟩ : ∃ z9 : Int32, z9 = xs 1 := ⟨_, rfl⟩
  obtain ⟨y2, hy2⟩ : ∃ z9 : Int32, z9 = xs 2 := ⟨_, rfl⟩
  obtain ⟨y3, hy3⟩ : ∃ z9 : Int32, z9 = xs 3 := ⟨_, rfl⟩
  have hs0 : (upd (fun _ => 0) 93 4) 0 = 0 := rfl
  have hs51 : (upd (fun _ => 0) 93 4) 51 = 0 := rfl
  have hs93 : (upd (fun _ => 0) 93 4) 93 = 4 := rfl
  have hs94 : (upd (fun _ => 0) 93 4) 94 = 0 := rfl
  have hs125 : (upd (fun _ => 0) 93 4) 125 = 0 := rfl
  have hs126 : (upd (fun _ => 0) 93 4) 126 = 0 := rfl
  obtain ⟨w, st, la, ld, ldA, lz, lzA, me, meA, li, ln, lnA, ll, llA, lc, lcA, hi, ri, zst, zla, zld, zldA, zlz, zlzA, zme, zmeA, zli, zln, zlnA, zll, zllA, zlc, zlcA, re, rd, rdA, rl, rlA, fo, foA, bu, buA, pa, mo, ms, mb, mlk, mfd, out, rf, K, KS, KC, KL, hrf, hK, hP, hD, hS, hl⟩ := h
  have hl : lv_has ls 7 [(4, .int 0), (3, .ref out), (2, .ref mo), (1, .ref w), (0, .ref b)] := hl
  generalize hAe : (fun q : Nat => s.heap.size ≤ q) = A at hG hD hS hA hbA
  have hP : va_P D vwCl [(w, .inr (7, [.ref st, .ref hi, .ref re, .ref fo, .ref bu, .ref pa])), (st, .inr (6, [.ref la, .ref me, .ref li, .int 4, .int 0, .int 0])), (me, .inr (4, [.ref meA, .int 0])), (mo, .inr (8, [.ref ms, .int 0, .ref mb, .int 0, .int 0, .ref mlk, .int 0, .ref mfd, .int 0, .int 0, .int 0, .int 0])), (ms, .inl (K, 889, .inl (upd (fun _ => 0) 93 4))), (out, .inl (KL, 1, .inr (.inl (fun _ => 0))))] H := hP.sub [0, 1, 7, 43, 44, 48] rfl
  have hD : va_D A [(w, .inr (7, [.ref st, .ref hi, .ref re, .ref fo, .ref bu, .ref pa])), (st, .inr (6, [.ref la, .ref me, .ref li, .int 4, .int 0, .int 0])), (me, .inr (4, [.ref meA, .int 0])), (mo, .inr (8, [.ref ms, .int 0, .ref mb, .int 0, .int 0, .ref mlk, .int 0, .ref mfd, .int 0, .int 0, .int 0, .int 0])), (ms, .inl (K, 889, .inl (upd (fun _ => 0) 93 4))), (out, .inl (KL, 1, .inr (.inl (fun _ => 0))))] := hD.sub [0, 1, 7, 43, 44, 48] (by decide) rfl
  refine lv_aload_n hx hb dL_law_854 rfl (lv_at hl 3 rfl) ?_
  refine lv_aload_n hx hb dL_law_855 rfl (lv_at hl 4 rfl) ?_
  refine lv_iload hx hb dL_law_856 (lv_at hl 0 rfl) ?_
  refine lv_iconst (v := 1) hx hb dL_law_858 (by decide) ?_
  refine lv_iadd hx hb dL_law_859 ?_
  refine k_nrm (y := 1) (by decide) ?_
  refine va_sld hx hb hX hbl hbA hS (by unfold vp_in; decide) dL_law_860 ?_
  refine k_nrm (y := y1) (by rw [hy1]; rfl) ?_
  refine lv_aload_n hx hb dL_law_861 rfl (lv_at hl 1 rfl) ?_
  have ct := k_cut_of (wc := [(w, .inr (7, [.ref st, .ref hi, .ref re, .ref fo, .ref bu, .ref pa])), (st, .inr (6, [.ref la, .ref me, .ref li, .int 4, .int 0, .int 0])), (me, .inr (4, [.ref meA, .int 0])), (out, .inl (KL, 1, .inr (.inl (fun _ => 0))))]) (wr := [(mo, .inr (8, [.ref ms, .int 0, .ref mb, .int 0, .int 0, .ref mlk, .int 0, .ref mfd, .int 0, .int 0, .int 0, .int 0])), (ms, .inl (K, 889, .inl (upd (fun _ => 0) 93 4)))]) (tc := [(KL, .long)]) hG hS hA hK hP hD [0, 1, 2, 5] [3, 4] [3] rfl rfl (by decide) (by decide) (by decide) rfl
  refine k_endi (As := [.ref w, .int y1, .ref out]) ct (k_runSW (As := [.ref w, .int y1, .ref out]) (rest := []) S0 Ls_L_137 ct (c_L_nearest l hst D w st hi re fo bu pa la me li 4 0 0 meA y1 out KL (fun _ => 0) H.size) hl.1 rfl (Nat.le_of_ble_eq_true rfl) rfl dL_law_862 ⟨⟨Nat.le_of_ble_eq_true rfl, Nat.le_of_ble_eq_true rfl⟩, Nat.le_of_ble_eq_true rfl, Nat.le_of_ble_eq_true rfl⟩) rfl rfl (fun r_1 og_2 H locs hw_3 hP hD hK hS => ?_)
  have hK : va_K D vwCl [(K, .int), (KS, .object "BarcodeWand$State"), (KC, .char), (KL, .long)] s := hK
  have hP : va_P D vwCl [(mo, .inr (8, [.ref ms, .int 0, .ref mb, .int 0, .int 0, .ref mlk, .int 0, .ref mfd, .int 0, .int 0, .int 0, .int 0])), (ms, .inl (K, 889, .inl (upd (fun _ => 0) 93 4))), (out, .inl (KL, 1, .inr (.inl og_2)))] H := hP
  have hD : va_D A [(mo, .inr (8, [.ref ms, .int 0, .ref mb, .int 0, .int 0, .ref mlk, .int 0, .ref mfd, .int 0, .int 0, .int 0, .int 0])), (ms, .inl (K, 889, .inl (upd (fun _ => 0) 93 4))), (out, .inl (KL, 1, .inr (.inl og_2)))] := hD
  have hw_3 : r_1 = 1 := hw_3
  have hw_3 := hw_3.symm
  subst hw_3
  refine k_nrm (y := 1) rfl ?_
  refine lv_istore (lv' := [(5, .int 1), (4, .int 0), (3, .ref out), (2, .ref mo), (1, .ref w), (0, .ref b)]) hx hb dL_law_865 hl (by decide) rfl (fun ls hl => ?_)
  refine lv_aload_n hx hb dL_law_867 rfl (lv_at hl 3 rfl) ?_
  refine lv_aload_n hx hb dL_law_868 rfl (lv_at hl 5 rfl) ?_
  refine lv_iload hx hb dL_law_869 (lv_at hl 1 rfl) ?_
  refine lv_iconst (v := 1) hx hb dL_law_871 (by decide) ?_
  refine lv_iadd hx hb dL_law_872 ?_
  refine k_nrm (y := 1) (by decide) ?_
  refine va_sld hx hb hX hbl hbA hS (by unfold vp_in; decide) dL_law_873 ?_
  refine k_nrm (y := y1) (by rw [hy1]; rfl) ?_
  have ct := k_cut_of (wc := [(mo, .inr (8, [.ref ms, .int 0, .ref mb, .int 0, .int 0, .ref mlk, .int 0, .ref mfd, .int 0, .int 0, .int 0, .int 0])), (ms, .inl (K, 889, .inl (upd (fun _ => 0) 93 4)))]) (wr := [(out, .inl (KL, 1, .inr (.inl og_2)))]) (tc := [(K, .int)]) hG hS hA hK hP hD [0, 1] [2] [0] rfl rfl (by decide) (by decide) (by decide) rfl
  refine k_endi (As := [.ref mo, .int y1]) ct (k_runV (As := [.int y1]) (rest := []) S0 Lv_L_139 rfl (ci := 8) (q0 := 0) rfl rfl ct (c_M_nearest l D mo ms 0 mb 0 mlk 0 mfd 0 0 0 0 K (upd (fun _ => 0) 93 4) y1 (by first | assumption | exact (cpf_lo (by decide)).trans (by assumption)) (by first | assumption | exact (cpf_lo (by decide)).trans (by assumption)) (by first | assumption | exact (cpf_lo (by decide)).trans (by assumption)) (by first | assumption | exact (cpf_lo (by decide)).trans (by assumption)) (by first | assumption | exact (cpf_lo (by decide)).trans (by assumption)) (by first | assumption | exact (cpf_lo (by decide)).trans (by assumption)) H.size) hl.1 rfl (Nat.le_of_ble_eq_true rfl) rfl dL_law_874 ⟨⟨Nat.le_of_ble_eq_true rfl, Nat.le_of_ble_eq_true rfl⟩, Nat.le_of_ble_eq_true rfl, Nat.le_of_ble_eq_true rfl⟩) rfl rfl (fun r_4 _ H locs hw_5 hP hD hK hS => ?_)
  have hK : va_K D vwCl [(K, .int), (KS, .object "BarcodeWand$State"), (KC, .char), (KL, .long)] s := hK
  have hP : va_P D vwCl [(out, .inl (KL, 1, .inr (.inl og_2))), (mo, .inr (8, [.ref ms, .int 0, .ref mb, .int 0, .int 1, .ref mlk, .int 0, .ref mfd, .int 0, .int 0, .int 0, .int 0])), (ms, .inl (K, 889, .inl (upd (fun _ => 0) 93 4)))] H := hP
  have hD : va_D A [(out, .inl (KL, 1, .inr (.inl og_2))), (mo, .inr (8, [.ref ms, .int 0, .ref mb, .int 0, .int 1, .ref mlk, .int 0, .ref mfd, .int 0, .int 0, .int 0, .int 0])), (ms, .inl (K, 889, .inl (upd (fun _ => 0) 93 4)))] := hD
  have hw_5 : r_4 = 0 := hw_5
  have hw_5 := hw_5.symm
  subst hw_5
  refine k_nrm (y := 0) rfl ?_
  refine lv_istore (lv' := [(6, .int 0), (5, .int 1), (4, .int 0), (3, .ref out), (2, .ref mo), (1, .ref w), (0, .ref b)]) hx hb dL_law_877 hl (by decide) rfl (fun ls hl => ?_)
  refine lv_aload_n hx hb dL_law_879 rfl (lv_at hl 4 rfl) ?_
  have ct := k_cut_of (wc := [(mo, .inr (8, [.ref ms, .int 0, .ref mb, .int 0, .int 1, .ref mlk, .int 0, .ref mfd, .int 0, .int 0, .int 0, .int 0]))]) (wr := [(out, .inl (KL, 1, .inr (.inl og_2))), (ms, .inl (K, 889, .inl (upd (fun _ => 0) 93 4)))]) (tc := []) hG hS hA hK hP hD [1] [0, 2] [] rfl rfl (by decide) (by decide) (by decide) rfl
  refine k_endi (As := [.ref mo]) ct (k_runV (As := []) (rest := []) S0 Lv_L_83 rfl (ci := 8) (q0 := 0) rfl rfl ct (c_M_thrown2 l D mo ms 0 mb 0 1 mlk 0 mfd 0 0 0 0 H.size) hl.1 rfl (Nat.le_of_ble_eq_true rfl) rfl dL_law_880 ⟨⟨Nat.le_of_ble_eq_true rfl, Nat.le_of_ble_eq_true rfl⟩, Nat.le_of_ble_eq_true rfl, Nat.le_of_ble_eq_true rfl⟩) rfl rfl (fun r_6 _ H locs hw_7 hP hD hK hS => ?_)
  have hK : va_K D vwCl [(K, .int), (KS, .object "BarcodeWand$State"), (KC, .char), (KL, .long)] s := hK
  have hP : va_P D vwCl [(out, .inl (KL, 1, .inr (.inl og_2))), (ms, .inl (K, 889, .inl (upd (fun _ => 0) 93 4))), (mo, .inr (8, [.ref ms, .int 0, .ref mb, .int 0, .int 1, .ref mlk, .int 0, .ref mfd, .int 0, .int 0, .int 0, .int 0]))] H := hP
  have hD : va_D A [(out, .inl (KL, 1, .inr (.inl og_2))), (ms, .inl (K, 889, .inl (upd (fun _ => 0) 93 4))), (mo, .inr (8, [.ref ms, .int 0, .ref mb, .int 0, .int 1, .ref mlk, .int 0, .ref mfd, .int 0, .int 0, .int 0, .int 0]))] := hD
  have hw_7 : r_6 = 1 := hw_7
  have hw_7 := hw_7.symm
  subst hw_7
  refine k_nrm (y := 1) rfl ?_
  refine lv_iload hx hb dL_law_883 (lv_at hl 1 rfl) ?_
  refine lv_icmp_eq (tgt := 890) hx hb dL_law_885 (by decide) (fun _ => ?_) (fun c9 => absurd (by decide) c9)
  refine lv_iload hx hb dL_law_890 (lv_at hl 1 rfl) ?_
  refine lv_if_ne (tgt := 907) hx hb dL_law_892 (by decide) (fun _ => ?_) (fun c9 => absurd c9 (by decide))
  refine lv_goto (tgt := 1479) hx hb dL_law_907 (by decide) ?_
  exact law_end C0 (by rw [hAe]; exact hS) (lv_sub hl [2, 6] rfl) (Nat.le_of_ble_eq_true rfl) (Nat.le_of_ble_eq_true rfl)
