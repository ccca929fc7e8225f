
set_option maxHeartbeats 4000000 in
set_option maxRecDepth 100000 in
theorem law_c24 {p : Program} {l : Launch} {e : Env} {s : State} {m : MethodId} {below : List Frame} {meth : Method} {c : Code} {b : Nat} {xs : Nat → Int32} (hst : l.stackTraces = false) (D : va_G) (C0 : lw_At p s m meth c b 4 xs) (hG : k_G (fun q : Nat => s.heap.size ≤ q) s s.heap) {H : Heap} {locs : List Loc} {ls : Array Slot} (h : law_I D s b H locs ls) : W p l e room_1 s m #[Value.ref b] below meth c H locs 124 2208 (lw_Z below #[Value.ref b] s) (F0 m 1269 ls []) := by
  have C1 := C0
  obtain ⟨hx, hb, hr, hml, hown, hts, hX, hbl, hlocks, hgv⟩ := C1
  have hown : s.vm.findClass RL = some m.cls := hown
  have ht : ∀ v9 ∈ wsA, v9.before #[Value.ref b] s = true := fun v9 h9 => hts v9 (wsA_tbl h9)
  have S0 : k_C p s m #[Value.ref b] c cL_law 7 RL := ⟨hx, hb, hml, hown, ht⟩
  have hbA : ¬ (fun q : Nat => s.heap.size ≤ q) b := Nat.not_le.mpr hbl
  have hA : ∀ q : Nat, s.heap.size ≤ q → (fun q : Nat => s.heap.size ≤ q) q := fun _ h9 => h9
  obtain ⟨y1, hy1⟩ : ∃ z9 : Int32, z9 = xs 1 := ⟨_, rfl⟩
  obtain ⟨y2, hy2⟩ : ∃ z9 : Int32, z9 = xs 2 := ⟨_, rfl⟩
  obtain ⟨y3, hy3⟩ : ∃ z9 : Int32, z9 = xs 3 := ⟨_, rfl⟩
  have hs0 : (upd (fun _ => 0) 93 4) 0 = 0 := rfl
  have hs51 : (upd (fun _ => 0) 93 4) 51 = 0 := rfl
  have hs93 : (upd (fun _ => 0) 93 4) 93 = 4 := rfl
  have hs94 : (upd (fun _ => 0) 93 4) 94 = 0 := rfl
  have hs125 : (upd (fun _ => 0) 93 4) 125 = 0 := rfl
  have hs126 : (upd (fun _ => 0) 93 4) 126 = 0 := rfl
  obtain ⟨w, st, la, ld, ldA, lz, lzA, me, meA, li, ln, lnA, ll, llA, lc, lcA, hi, ri, zst, zla, zld, zldA, zlz, zlzA, zme, zmeA, zli, zln, zlnA, zll, zllA, zlc, zlcA, re, rd, rdA, rl, rlA, fo, foA, bu, buA, pa, mo, ms, mb, mlk, mfd, out, rf, K, KS, KC, KL, hrf, hK, hP, hD, hS, hl⟩ := h
  have hl : lv_has ls 7 [(4, .int 0), (3, .ref out), (2, .ref mo), (1, .ref w), (0, .ref b)] := hl
  generalize hAe : (fun q : Nat => s.heap.size ≤ q) = A at hG hD hS hA hbA
  have hP : va_P D vwCl [(w, .inr (7, [.ref st, .ref hi, .ref re, .ref fo, .ref bu, .ref pa])), (st, .inr (6, [.ref la, .ref me, .ref li, .int 4, .int 0, .int 0])), (me, .inr (4, [.ref meA, .int 0])), (re, .inr (3, [.ref rd, .int 0, .ref rl, .int 0, .int 0, .int 0, .int 0, .int 0])), (rd, .inr (4, [.ref rdA, .int 0])), (rl, .inr (4, [.ref rlA, .int 0])), (mo, .inr (8, [.ref ms, .int 0, .ref mb, .int 0, .int 0, .ref mlk, .int 0, .ref mfd, .int 0, .int 0, .int 0, .int 0])), (ms, .inl (K, 889, .inl (upd (fun _ => 0) 93 4)))] H := hP.sub [0, 1, 7, 33, 34, 36, 43, 44] rfl
  have hD : va_D A [(w, .inr (7, [.ref st, .ref hi, .ref re, .ref fo, .ref bu, .ref pa])), (st, .inr (6, [.ref la, .ref me, .ref li, .int 4, .int 0, .int 0])), (me, .inr (4, [.ref meA, .int 0])), (re, .inr (3, [.ref rd, .int 0, .ref rl, .int 0, .int 0, .int 0, .int 0, .int 0])), (rd, .inr (4, [.ref rdA, .int 0])), (rl, .inr (4, [.ref rlA, .int 0])), (mo, .inr (8, [.ref ms, .int 0, .ref mb, .int 0, .int 0, .ref mlk, .int 0, .ref mfd, .int 0, .int 0, .int 0, .int 0])), (ms, .inl (K, 889, .inl (upd (fun _ => 0) 93 4)))] := hD.sub [0, 1, 7, 33, 34, 36, 43, 44] (by decide) rfl
  refine lv_aload_n hx hb dL_law_1269 rfl (lv_at hl 3 rfl) ?_
  have ct := k_cut_of (wc := [(w, .inr (7, [.ref st, .ref hi, .ref re, .ref fo, .ref bu, .ref pa])), (st, .inr (6, [.ref la, .ref me, .ref li, .int 4, .int 0, .int 0])), (me, .inr (4, [.ref meA, .int 0])), (re, .inr (3, [.ref rd, .int 0, .ref rl, .int 0, .int 0, .int 0, .int 0, .int 0])), (rd, .inr (4, [.ref rdA, .int 0])), (rl, .inr (4, [.ref rlA, .int 0]))]) (wr := [(mo, .inr (8, [.ref ms, .int 0, .ref mb, .int 0, .int 0, .ref mlk, .int 0, .ref mfd, .int 0, .int 0, .int 0, .int 0])), (ms, .inl (K, 889, .inl (upd (fun _ => 0) 93 4)))]) (tc := []) hG hS hA hK hP hD [0, 1, 2, 3, 4, 5] [6, 7] [] rfl rfl (by decide) (by decide) (by decide) rfl
  refine k_endi (As := [.ref w]) ct (k_runV (As := []) (rest := []) S0 Lv_L_167 rfl (ci := 7) (q0 := 0) rfl rfl ct (c_W_least l D w st hi re fo bu pa la me li 4 0 0 meA rd 0 rl 0 0 0 0 0 rdA 0 rlA 0 H.size) hl.1 rfl (Nat.le_of_ble_eq_true rfl) rfl dL_law_1270 ⟨⟨Nat.le_of_ble_eq_true rfl, Nat.le_of_ble_eq_true rfl⟩, Nat.le_of_ble_eq_true rfl, Nat.le_of_ble_eq_true rfl⟩) rfl rfl (fun r_1 _ H locs hw_2 hP hD hK hS => ?_)
  have hK : va_K D vwCl [(K, .int), (KS, .object "BarcodeWand$State"), (KC, .char), (KL, .long)] s := hK
  have hP : va_P D vwCl [(mo, .inr (8, [.ref ms, .int 0, .ref mb, .int 0, .int 0, .ref mlk, .int 0, .ref mfd, .int 0, .int 0, .int 0, .int 0])), (ms, .inl (K, 889, .inl (upd (fun _ => 0) 93 4))), (w, .inr (7, [.ref st, .ref hi, .ref re, .ref fo, .ref bu, .ref pa])), (st, .inr (6, [.ref la, .ref me, .ref li, .int 4, .int 0, .int 0])), (me, .inr (4, [.ref meA, .int 0])), (re, .inr (3, [.ref rd, .int 0, .ref rl, .int 0, .int 0, .int 0, .int 0, .int 0])), (rd, .inr (4, [.ref rdA, .int 0])), (rl, .inr (4, [.ref rlA, .int 0]))] H := hP
  have hD : va_D A [(mo, .inr (8, [.ref ms, .int 0, .ref mb, .int 0, .int 0, .ref mlk, .int 0, .ref mfd, .int 0, .int 0, .int 0, .int 0])), (ms, .inl (K, 889, .inl (upd (fun _ => 0) 93 4))), (w, .inr (7, [.ref st, .ref hi, .ref re, .ref fo, .ref bu, .ref pa])), (st, .inr (6, [.ref la, .ref me, .ref li, .int 4, .int 0, .int 0])), (me, .inr (4, [.ref meA, .int 0])), (re, .inr (3, [.ref rd, .int 0, .ref rl, .int 0, .int 0, .int 0, .int 0, .int 0])), (rd, .inr (4, [.ref rdA, .int 0])), (rl, .inr (4, [.ref rlA, .int 0]))] := hD
  have hw_2 : r_1 = (-1) := hw_2
  have hw_2 := hw_2.symm
  subst hw_2
  refine k_nrm (y := (-1)) rfl ?_
  refine lv_aload_n hx hb dL_law_1273 rfl (lv_at hl 2 rfl) ?_
  have ct := k_cut_of (wc := [(mo, .inr (8, [.ref ms, .int 0, .ref mb, .int 0, .int 0, .ref mlk, .int 0, .ref mfd, .int 0, .int 0, .int 0, .int 0])), (ms, .inl (K, 889, .inl (upd (fun _ => 0) 93 4)))]) (wr := [(w, .inr (7, [.ref st, .ref hi, .ref re, .ref fo, .ref bu, .ref pa])), (st, .inr (6, [.ref la, .ref me, .ref li, .int 4, .int 0, .int 0])), (me, .inr (4, [.ref meA, .int 0])), (re, .inr (3, [.ref rd, .int 0, .ref rl, .int 0, .int 0, .int 0, .int 0, .int 0])), (rd, .inr (4, [.ref rdA, .int 0])), (rl, .inr (4, [.ref rlA, .int 0]))]) (tc := [(K, .int)]) hG hS hA hK hP hD [0, 1] [2, 3, 4, 5, 6, 7] [0] rfl rfl (by decide) (by decide) (by decide) rfl
  refine k_endi (As := [.ref mo]) ct (k_runV (As := []) (rest := [.int (-1)]) S0 Lv_L_170 rfl (ci := 8) (q0 := 0) rfl rfl ct (c_M_least l D mo ms 0 mb 0 mlk 0 mfd 0 0 0 0 K (upd (fun _ => 0) 93 4) (by first | assumption | exact (cpf_lo (by decide)).trans (by assumption)) (by first | assumption | exact (cpf_lo (by decide)).trans (by assumption)) (by first | assumption | exact (cpf_lo (by decide)).trans (by assumption)) (by first | assumption | exact (cpf_lo (by decide)).trans (by assumption)) (by first | assumption | exact (cpf_lo (by decide)).trans (by assumption)) (by first | assumption | exact (cpf_lo (by decide)).trans (by assumption)) H.size) hl.1 rfl (Nat.le_of_ble_eq_true rfl) rfl dL_law_1274 ⟨⟨Nat.le_of_ble_eq_true rfl, Nat.le_of_ble_eq_true rfl⟩, Nat.le_of_ble_eq_true rfl, Nat.le_of_ble_eq_true rfl⟩) rfl rfl (fun r_3 _ H locs hw_4 hP hD hK hS => ?_)
  have hK : va_K D vwCl [(K, .int), (KS, .object "BarcodeWand$State"), (KC, .char), (KL, .long)] s := hK
  have hP : va_P D vwCl [(w, .inr (7, [.ref st, .ref hi, .ref re, .ref fo, .ref bu, .ref pa])), (st, .inr (6, [.ref la, .ref me, .ref li, .int 4, .int 0, .int 0])), (me, .inr (4, [.ref meA, .int 0])), (re, .inr (3, [.ref rd, .int 0, .ref rl, .int 0, .int 0, .int 0, .int 0, .int 0])), (rd, .inr (4, [.ref rdA, .int 0])), (rl, .inr (4, [.ref rlA, .int 0])), (mo, .inr (8, [.ref ms, .int 0, .ref mb, .int 0, .int 0, .ref mlk, .int 0, .ref mfd, .int (-1), .int 0, .int 0, .int 0])), (ms, .inl (K, 889, .inl (upd (fun _ => 0) 93 4)))] H := hP
  have hD : va_D A [(w, .inr (7, [.ref st, .ref hi, .ref re, .ref fo, .ref bu, .ref pa])), (st, .inr (6, [.ref la, .ref me, .ref li, .int 4, .int 0, .int 0])), (me, .inr (4, [.ref meA, .int 0])), (re, .inr (3, [.ref rd, .int 0, .ref rl, .int 0, .int 0, .int 0, .int 0, .int 0])), (rd, .inr (4, [.ref rdA, .int 0])), (rl, .inr (4, [.ref rlA, .int 0])), (mo, .inr (8, [.ref ms, .int 0, .ref mb, .int 0, .int 0, .ref mlk, .int 0, .ref mfd, .int (-1), .int 0, .int 0, .int 0])), (ms, .inl (K, 889, .inl (upd (fun _ => 0) 93 4)))] := hD
  have hw_4 : r_3 = (-1) := hw_4
  have hw_4 := hw_4.symm
  subst hw_4
  refine k_nrm (y := (-1)) rfl ?_
  refine lv_icmp_eq (tgt := 1479) hx hb dL_law_1277 (by decide) (fun _ => ?_) (fun c9 => absurd (by decide) c9)
  exact law_end C0 (by rw [hAe]; exact hS) (lv_sub hl [0, 4] rfl) (Nat.le_of_ble_eq_true rfl) (Nat.le_of_ble_eq_true rfl)
set_option maxHeartbeats 4000000 in
set_option maxRecDepth 100000 in
theorem law_c25 {p : Program} {l : Launch} {e : Env} {s : State} {m : MethodId} {below : List Frame} {meth : Method} {c : Code} {b : Nat} {xs : Nat → Int32} (hst : l.stackTraces = false) (D : va_G) (C0 : lw_At p s m meth c b 4 xs) (hG : k_G (fun q : Nat => s.heap.size ≤ q) s s.heap) {H : Heap} {locs : List Loc} {ls : Array Slot} (h : law_I D s b H locs ls) : W p l e room_1 s m #[Value.ref b] below meth c H locs 124 2208 (lw_Z below #[Value.ref b] s) (F0 m 1282 ls []) := by
  have C1 := C0
  obtain ⟨hx, hb, hr, hml, hown, hts, hX, hbl, hlocks, hgv⟩ := C1
  have hown : s.vm.findClass RL = some m.cls := hown
  have ht : ∀ v9 ∈ wsA, v9.before #[Value.ref b] s = true := fun v9 h9 => hts v9 (wsA_tbl h9)
  have S0 : k_C p s m #[Value.ref b] c cL_law 7 RL := ⟨hx, hb, hml, hown, ht⟩
  have hbA : ¬ (fun q : Nat => s.heap.size ≤ q) b := Nat.not_le.mpr hbl
  have hA : ∀ q : Nat, s.heap.size ≤ q → (fun q : Nat => s.heap.size ≤ q) q := fun _ h9 => h9
  obtain ⟨y1, hy1⟩ : ∃ z9 : Int32, z9 = xs 1 := ⟨_, rfl⟩
  obtain ⟨y2, hy2⟩ : ∃ z9 : Int32, z9 = xs 2 := ⟨_, rfl⟩
  obtain ⟨y3, hy3⟩ : ∃ z9 : Int32, z9 = xs 3 := ⟨_, rfl⟩
  have hs0 : (upd (fun _ => 0) 93 4) 0 = 0 := rfl
  have hs51 : (upd (fun _ => 0) 93 4) 51 = 0 := rfl
  have hs93 : (upd (fun _ => 0) 93 4) 93 = 4 := rfl
  have hs94 : (upd (fun _ => 0) 93 4) 94 = 0 := rfl
  have hs125 : (upd (fun _ => 0) 93 4) 125 = 0 := rfl
  have hs126 : (upd (fun _ => 0) 93 4) 126 = 0 := rfl
  obtain ⟨w, st, la, ld, ldA, lz, lzA, me, meA, li, ln, lnA, ll, llA, lc, lcA, hi, ri, zst, zla, zld, zldA, zlz, zlzA, zme, zmeA, zli, zln, zlnA, zll, zllA, zlc, zlcA, re, rd, rdA, rl, rlA, fo, foA, bu, buA, pa, mo, ms, mb, mlk, mfd, out, rf, K, KS, KC, KL, hrf, hK, hP, hD, hS, hl⟩ := h
  have hl : lv_has ls 7 [(4, .int 0), (3, .ref out), (2, .ref mo), (1, .ref w), (0, .ref b)] := hl
  generalize hAe : (fun q : Nat => s.heap.size ≤ q) = A at hG hD hS hA hbA
  have hP : va_P D vwCl [(w, .inr (7, [.ref st, .ref hi, .ref re, .ref fo, .ref bu, .ref pa])), (bu, .inr (4, [.ref buA, .int 0])), (buA, .inl (K, 60, .inl (fun _ => 0))), (mo, .inr (8, [.ref ms, .int 0, .ref mb, .int 0, .int 0, .ref mlk, .int 0, .ref mfd, .int 0, .int 0, .int 0, .int 0])), (mb, .inl (KC, 60, .inl (fun _ => 0))), (out, .inl (KL, 1, .inr (.inl (fun _ => 0))))] H := hP.sub [0, 40, 41, 43, 45, 48] rfl
  have hD : va_D A [(w, .inr (7, [.ref st, .ref hi, .ref re, .ref fo, .ref bu, .ref pa])), (bu, .inr (4, [.ref buA, .int 0])), (buA, .inl (K, 60, .inl (fun _ => 0))), (mo, .inr (8, [.ref ms, .int 0, .ref mb, .int 0, .int 0, .ref mlk, .int 0, .ref mfd, .int 0, .int 0, .int 0, .int 0])), (mb, .inl (KC, 60, .inl (fun _ => 0))), (out, .inl (KL, 1, .inr (.inl (fun _ => 0))))] := hD.sub [0, 40, 41, 43, 45, 48] (by decide) rfl
  refine lv_aload_n hx hb dL_law_1282 rfl (lv_at hl 3 rfl) ?_
  refine lv_aload_n hx hb dL_law_1283 rfl (lv_at hl 4 rfl) ?_
  refine lv_iload hx hb dL_law_1284 (lv_at hl 0 rfl) ?_
  refine lv_iconst (v := 1) hx hb dL_law_1286 (by decide) ?_
  refine lv_iadd hx hb dL_law_1287 ?_
  refine k_nrm (y := 1) (by decide) ?_
  refine va_sld hx hb hX hbl hbA hS (by unfold vp_in; decide) dL_law_1288 ?_
  refine k_nrm (y := y1) (by rw [hy1]; rfl) ?_
  refine lv_aload_n hx hb dL_law_1289 rfl (lv_at hl 1 rfl) ?_
  have ct := k_cut_of (wc := [(w, .inr (7, [.ref st, .ref hi, .ref re, .ref fo, .ref bu, .ref pa])), (bu, .inr (4, [.ref buA, .int 0])), (buA, .inl (K, 60, .inl (fun _ => 0))), (out, .inl (KL, 1, .inr (.inl (fun _ => 0))))]) (wr := [(mo, .inr (8, [.ref ms, .int 0, .ref mb, .int 0, .int 0, .ref mlk, .int 0, .ref mfd, .int 0, .int 0, .int 0, .int 0])), (mb, .inl (KC, 60, .inl (fun _ => 0)))]) (tc := [(K, .int), (KL, .long)]) hG hS hA hK hP hD [0, 1, 2, 5] [3, 4] [0, 3] rfl rfl (by decide) (by decide) (by decide) rfl
  refine k_endi (As := [.ref w, .int y1, .ref out]) ct (k_runSW (As := [.ref w, .int y1, .ref out]) (rest := []) S0 Ls_L_171 ct (c_L_append l hst D w st hi re fo bu pa buA K (fun _ => 0) y1 out KL (fun _ => 0) H.size) hl.1 rfl (Nat.le_of_ble_eq_true rfl) rfl dL_law_1290 ⟨⟨Nat.le_of_ble_eq_true rfl, Nat.le_of_ble_eq_true rfl⟩, Nat.le_of_ble_eq_true rfl, Nat.le_of_ble_eq_true rfl⟩) rfl rfl (fun r_1 og_2 H locs hw_3 hP hD hK hS => ?_)
  have hK : va_K D vwCl [(K, .int), (KS, .object "BarcodeWand$State"), (KC, .char), (KL, .long)] s := hK
  have hP : va_P D vwCl [(mo, .inr (8, [.ref ms, .int 0, .ref mb, .int 0, .int 0, .ref mlk, .int 0, .ref mfd, .int 0, .int 0, .int 0, .int 0])), (mb, .inl (KC, 60, .inl (fun _ => 0))), (out, .inl (KL, 1, .inr (.inl og_2)))] H := hP
  have hD : va_D A [(mo, .inr (8, [.ref ms, .int 0, .ref mb, .int 0, .int 0, .ref mlk, .int 0, .ref mfd, .int 0, .int 0, .int 0, .int 0])), (mb, .inl (KC, 60, .inl (fun _ => 0))), (out, .inl (KL, 1, .inr (.inl og_2)))] := hD
  rcases hw_3 with ⟨c_4, rfl, c_5⟩ | ⟨c_6, rfl⟩
  · skip
    refine lv_istore (lv' := [(5, .int 0), (4, .int 0), (3, .ref out), (2, .ref mo), (1, .ref w), (0, .ref b)]) hx hb dL_law_1293 hl (by decide) rfl (fun ls hl => ?_)
    refine lv_aload_n hx hb dL_law_1295 rfl (lv_at hl 3 rfl) ?_
    refine lv_aload_n hx hb dL_law_1296 rfl (lv_at hl 5 rfl) ?_
    refine lv_iload hx hb dL_law_1297 (lv_at hl 1 rfl) ?_
    refine lv_iconst (v := 1) hx hb dL_law_1299 (by decide) ?_
    refine lv_iadd hx hb dL_law_1300 ?_
    refine k_nrm (y := 1) (by decide) ?_
    refine va_sld hx hb hX hbl hbA hS (by unfold vp_in; decide) dL_law_1301 ?_
    refine k_nrm (y := y1) (by rw [hy1]; rfl) ?_
    have ct := k_cut_of (wc := [(mo, .inr (8, [.ref ms, .int 0, .ref mb, .int 0, .int 0, .ref mlk, .int 0, .ref mfd, .int 0, .int 0, .int 0, .int 0])), (mb, .inl (KC, 60, .inl (fun _ => 0)))]) (wr := [(out, .inl (KL, 1, .inr (.inl og_2)))]) (tc := [(KC, .char)]) hG hS hA hK hP hD [0, 1] [2] [2] rfl rfl (by decide) (by decide) (by decide) rfl
    refine k_endi (As := [.ref mo, .int y1]) ct (k_runV (As := [.int y1]) (rest := []) S0 Lv_L_173 rfl (ci := 8) (q0 := 0) rfl rfl ct (c_M_append l D mo ms 0 mb 0 mlk 0 mfd 0 0 0 0 KC (fun _ => 0) y1 H.size) hl.1 rfl (Nat.le_of_ble_eq_true rfl) rfl dL_law_1302 ⟨⟨Nat.le_of_ble_eq_true rfl, Nat.le_of_ble_eq_true rfl⟩, Nat.le_of_ble_eq_true rfl, Nat.le_of_ble_eq_true rfl⟩) rfl rfl (fun r_7 u H locs hw_11 hP hD hK hS => ?_)
    obtain ⟨th1v_8, ty1v_9, bg_10⟩ := u
    have hK : va_K D vwCl [(K, .int), (KS, .object "BarcodeWand$State"), (KC, .char), (KL, .long)] s := hK
    have hP : va_P D vwCl [(out, .inl (KL, 1, .inr (.inl og_2))), (mo, .inr (8, [.ref ms, .int 0, .ref mb, .int ty1v_9, .int th1v_8, .ref mlk, .int 0, .ref mfd, .int 0, .int 0, .int 0, .int 0])), (mb, .inl (KC, 60, .inl bg_10))] H := hP
    have hD : va_D A [(out, .inl (KL, 1, .inr (.inl og_2))), (mo, .inr (8, [.ref ms, .int 0, .ref mb, .int ty1v_9, .int th1v_8, .ref mlk, .int 0, .ref mfd, .int 0, .int 0, .int 0, .int 0])), (mb, .inl (KC, 60, .inl bg_10))] := hD
    rcases hw_11 with ⟨c_12, rfl, rfl⟩ | ⟨c_13, rfl⟩
    · skip
      refine lv_istore (lv' := [(6, .int 1), (5, .int 0), (4, .int 0), (3, .ref out), (2, .ref mo), (1, .ref w), (0, .ref b)]) hx hb dL_law_1305 hl (by decide) rfl (fun ls hl => ?_)
      refine lv_aload_n hx hb dL_law_1307 rfl (lv_at hl 4 rfl) ?_
      have ct := k_cut_of (wc := [(mo, .inr (8, [.ref ms, .int 0, .ref mb, .int ty1v_9, .int 0, .ref mlk, .int 0, .ref mfd, .int 0, .int 0, .int 0, .int 0]))]) (wr := [(out, .inl (KL, 1, .inr (.inl og_2))), (mb, .inl (KC, 60, .inl bg_10))]) (tc := []) hG hS hA hK hP hD [1] [0, 2] [] rfl rfl (by decide) (by decide) (by decide) rfl
      refine k_endi (As := [.ref mo]) ct (k_runV (As := []) (rest := []) S0 Lv_L_83 rfl (ci := 8) (q0 := 0) rfl rfl ct (c_M_thrown2 l D mo ms 0 mb ty1v_9 0 mlk 0 mfd 0 0 0 0 H.size) hl.1 rfl (Nat.le_of_ble_eq_true rfl) rfl dL_law_1308 ⟨⟨Nat.le_of_ble_eq_true rfl, Nat.le_of_ble_eq_true rfl⟩, Nat.le_of_ble_eq_true rfl, Nat.le_of_ble_eq_true rfl⟩) rfl rfl (fun r_14 _ H locs hw_15 hP hD hK hS => ?_)
      have hK : va_K D vwCl [(K, .int), (KS, .object "BarcodeWand$State"), (KC, .char), (KL, .long)] s := hK
      have hP : va_P D vwCl [(out, .inl (KL, 1, .inr (.inl og_2))), (mb, .inl (KC, 60, .inl bg_10)), (mo, .inr (8, [.ref ms, .int 0, .ref mb, .int ty1v_9, .int 0, .ref mlk, .int 0, .ref mfd, .int 0, .int 0, .int 0, .int 0]))] H := hP
      have hD : va_D A [(out, .inl (KL, 1, .inr (.inl og_2))), (mb, .inl (KC, 60, .inl bg_10)), (mo, .inr (8, [.ref ms, .int 0, .ref mb, .int ty1v_9, .int 0, .ref mlk, .int 0, .ref mfd, .int 0, .int 0, .int 0, .int 0]))] := hD
      have hw_15 : r_14 = 0 := hw_15
      have hw_15 := hw_15.symm
      subst hw_15
      refine k_nrm (y := 0) rfl ?_
      refine lv_iload hx hb dL_law_1311 (lv_at hl 1 rfl) ?_
      refine lv_icmp_eq (tgt := 1318) hx hb dL_law_1313 (by decide) (fun _ => ?_) (fun c9 => absurd (by decide) c9)
      refine lv_iload hx hb dL_law_1318 (lv_at hl 1 rfl) ?_
      refine lv_if_ne (tgt := 1335) hx hb dL_law_1320 (by decide) (fun c9 => absurd (by decide) c9) (fun _ => ?_)
      refine lv_aload_n hx hb dL_law_1323 rfl (lv_at hl 3 rfl) ?_
      refine lv_iconst (v := 0) hx hb dL_law_1324 (by decide) ?_
      refine va_lald hx hb hK hP 0 3 rfl rfl (by unfold vp_in; decide) dL_law_1325 ?_
      refine k_nrml (y := 1) ((show og_2 (0 : Int32).toNatClampNeg = (1 : Int32).toInt64 from c_5).trans (by decide)) ?_
      refine lv_iload hx hb dL_law_1326 (lv_at hl 0 rfl) ?_
      refine lv_i2l (v := 1) hx hb dL_law_1328 (by decide) ?_
      refine W.lcmp hx hb dL_law_1329 ?_
      refine k_nrm (y := 0) (by decide) ?_
      refine lv_if_eq (tgt := 1335) hx hb dL_law_1330 (by decide) (fun _ => ?_) (fun c9 => absurd (by decide) c9)
      refine lv_goto (tgt := 1479) hx hb dL_law_1335 (by decide) ?_
      exact law_end C0 (by rw [hAe]; exact hS) (lv_sub hl [2, 6] rfl) (Nat.le_of_ble_eq_true rfl) (Nat.le_of_ble_eq_true rfl)
    · skip
      exact absurd c_4 c_13
  · skip
    refine lv_istore (lv' := [(5, .int 1), (4, .int 0), (3, .ref out), (2, .ref mo), (1, .ref w), (0, .ref b)]) hx hb dL_law_1293 hl (by decide) rfl (fun ls hl => ?_)
    refine lv_aload_n hx hb dL_law_1295 rfl (lv_at hl 3 rfl) ?_
    refine lv_aload_n hx hb dL_law_1296 rfl (lv_at hl 5 rfl) ?_
    refine lv_iload hx hb dL_law_1297 (lv_at hl 1 rfl) ?_
    refine lv_iconst (v := 1) hx hb dL_law_1299 (by decide) ?_
    refine lv_iadd hx hb dL_law_1300 ?_
    refine k_nrm (y := 1) (by decide) ?_
    refine va_sld hx hb hX hbl hbA hS (by unfold vp_in; decide) dL_law_1301 ?_
    refine k_nrm (y := y1) (by rw [hy1]; rfl) ?_
    have ct := k_cut_of (wc := [(mo, .inr (8, [.ref ms, .int 0, .ref mb, .int 0, .int 0, .ref mlk, .int 0, .ref mfd, .int 0, .int 0, .int 0, .int 0])), (mb, .inl (KC, 60, .inl (fun _ => 0)))]) (wr := [(out, .inl (KL, 1, .inr (.inl og_2)))]) (tc := [(KC, .char)]) hG hS hA hK hP hD [0, 1] [2] [2] rfl rfl (by decide) (by decide) (by decide) rfl
    refine k_endi (As := [.ref mo, .int y1]) ct (k_runV (As := [.int y1]) (rest := []) S0 Lv_L_173 rfl (ci := 8) (q0 := 0) rfl rfl ct (c_M_append l D mo ms 0 mb 0 mlk 0 mfd 0 0 0 0 KC (fun _ => 0) y1 H.size) hl.1 rfl (Nat.le_of_ble_eq_true rfl) rfl dL_law_1302 ⟨⟨Nat.le_of_ble_eq_true rfl, Nat.le_of_ble_eq_true rfl⟩, Nat.le_of_ble_eq_true rfl, Nat.le_of_ble_eq_true rfl⟩) rfl rfl (fun r_16 u H locs hw_20 hP hD hK hS => ?_)
    obtain ⟨th1v_17, ty1v_18, bg_19⟩ := u
    have hK : va_K D vwCl [(K, .int), (KS, .object "BarcodeWand$State"), (KC, .char), (KL, .long)] s := hK
    have hP : va_P D vwCl [(out, .inl (KL, 1, .inr (.inl og_2))), (mo, .inr (8, [.ref ms, .int 0, .ref mb, .int ty1v_18, .int th1v_17, .ref mlk, .int 0, .ref mfd, .int 0, .int 0, .int 0, .int 0])), (mb, .inl (KC, 60, .inl bg_19))] H := hP
    have hD : va_D A [(out, .inl (KL, 1, .inr (.inl og_2))), (mo, .inr (8, [.ref ms, .int 0, .ref mb, .int ty1v_18, .int th1v_17, .ref mlk, .int 0, .ref mfd, .int 0, .int 0, .int 0, .int 0])), (mb, .inl (KC, 60, .inl bg_19))] := hD
    rcases hw_20 with ⟨c_21, rfl, rfl⟩ | ⟨c_22, rfl⟩
    · skip
      exact absurd c_21 c_6
    · skip
      refine lv_istore (lv' := [(6, .int r_16), (5, .int 1), (4, .int 0), (3, .ref out), (2, .ref mo), (1, .ref w), (0, .ref b)]) hx hb dL_law_1305 hl (by decide) rfl (fun ls hl => ?_)
      refine lv_aload_n hx hb dL_law_1307 rfl (lv_at hl 4 rfl) ?_
      have ct := k_cut_of (wc := [(mo, .inr (8, [.ref ms, .int 0, .ref mb, .int ty1v_18, .int 1, .ref mlk, .int 0, .ref mfd, .int 0, .int 0, .int 0, .int 0]))]) (wr := [(out, .inl (KL, 1, .inr (.inl og_2))), (mb, .inl (KC, 60, .inl bg_19))]) (tc := []) hG hS hA hK hP hD [1] [0, 2] [] rfl rfl (by decide) (by decide) (by decide) rfl
      refine k_endi (As := [.ref mo]) ct (k_runV (As := []) (rest := []) S0 Lv_L_83 rfl (ci := 8) (q0 := 0) rfl rfl ct (c_M_thrown2 l D mo ms 0 mb ty1v_18 1 mlk 0 mfd 0 0 0 0 H.size) hl.1 rfl (Nat.le_of_ble_eq_true rfl) rfl dL_law_1308 ⟨⟨Nat.le_of_ble_eq_true rfl, Nat.le_of_ble_eq_true rfl⟩, Nat.le_of_ble_eq_true rfl, Nat.le_of_ble_eq_true rfl⟩) rfl rfl (fun r_23 _ H locs hw_24 hP hD hK hS => ?_)
      have hK : va_K D vwCl [(K, .int), (KS, .object "BarcodeWand$State"), (KC, .char), (KL, .long)] s := hK
      have hP : va_P D vwCl [(out, .inl (KL, 1, .inr (.inl og_2))), (mb, .inl (KC, 60, .inl bg_19)), (mo, .inr (8, [.ref ms, .int 0, .ref mb, .int ty1v_18, .int 1, .ref mlk, .int 0, .ref mfd, .int 0, .int 0, .int 0, .int 0]))] H := hP
      have hD : va_D A [(out, .inl (KL, 1, .inr (.inl og_2))), (mb, .inl (KC, 60, .inl bg_19)), (mo, .inr (8, [.ref ms, .int 0, .ref mb, .int ty1v_18, .int 1, .ref mlk, .int 0, .ref mfd, .int 0, .int 0, .int 0, .int 0]))] := hD
      have hw_24 : r_23 = 1 := hw_24
      have hw_24 := hw_24.symm
      subst hw_24
      refine k_nrm (y := 1) rfl ?_
      refine lv_iload hx hb dL_law_1311 (lv_at hl 1 rfl) ?_
      refine lv_icmp_eq (tgt := 1318) hx hb dL_law_1313 (by decide) (fun _ => ?_) (fun c9 => absurd (by decide) c9)
      refine lv_iload hx hb dL_law_1318 (lv_at hl 1 rfl) ?_
      refine lv_if_ne (tgt := 1335) hx hb dL_law_1320 (by decide) (fun _ => ?_) (fun c9 => absurd c9 (by decide))
      refine lv_goto (tgt := 1479) hx hb dL_law_1335 (by decide) ?_
      exact law_end C0 (by rw [hAe]; exact hS) (lv_sub hl [2, 6] rfl) (Nat.le_of_ble_eq_true rfl) (Nat.le_of_ble_eq_true rfl)
set_option maxHeartbeats 4000000 in
set_option maxRecDepth 100000 in
theorem law_c26 {p : Program} {l : Launch} {e : Env} {s : State} {m : MethodId} {below : List Frame} {meth : Method} {c : Code} {b : Nat} {xs : Nat → Int32} (hst : l.stackTraces = false) (D : va_G) (C0 : lw_At p s m meth c b 4 xs) (hG : k_G (fun q : Nat => s.heap.size ≤ q) s s.heap) {H : Heap} {locs : List Loc} {ls : Array Slot} (h : law_I D s b H locs ls) : W p l e room_1 s m #[Value.ref b] below meth c H locs 124 2208 (lw_Z below #[Value.ref b] s) (F0 m 1338 ls []) := by
  have C1 := C0
  obtain ⟨hx, hb, hr, hml, hown, hts, hX, hbl, hlocks, hgv⟩ := C1
  have hown : s.vm.findClass RL = some m.cls := hown
  have ht : ∀ v9 ∈ wsA, v9.before #[Value.ref b] s = true := fun v9 h9 => hts v9 (wsA_tbl h9)
  have S0 : k_C p s m #[Value.ref b] c cL_law 7 RL := ⟨hx, hb, hml, hown, ht⟩
  have hbA : ¬ (fun q : Nat => s.heap.size ≤ q) b := Nat.not_le.mpr hbl
  have hA : ∀ q : Nat, s.heap.size ≤ q → (fun q : Nat => s.heap.size ≤ q) q := fun _ h9 => h9
  obtain ⟨y1, hy1⟩ : ∃ z9 : Int32, z9 = xs 1 := ⟨_, rfl⟩
  obtain ⟨y2, hy2⟩ : ∃ z9 : Int32, z9 = xs 2 := ⟨_, rfl⟩
  obtain ⟨y3, hy3⟩ : ∃ z9 : Int32, z9 = xs 3 := ⟨_, rfl⟩
  have hs0 : (upd (fun _ => 0) 93 4) 0 = 0 := rfl
  have hs51 : (upd (fun _ => 0) 93 4) 51 = 0 := rfl
  have hs93 : (upd (fun _ => 0) 93 4) 93 = 4 := rfl
  have hs94 : (upd (fun _ => 0) 93 4) 94 = 0 := rfl
  have hs125 : (upd (fun _ => 0) 93 4) 125 = 0 := rfl
  have hs126 : (upd (fun _ => 0) 93 4) 126 = 0 := rfl
  obtain ⟨w, st, la, ld, ldA, lz, lzA, me, meA, li, ln, lnA, ll, llA, lc, lcA, hi, ri, zst, zla, zld, zldA, zlz, zlzA, zme, zmeA, zli, zln, zlnA, zll, zllA, zlc, zlcA, re, rd, rdA, rl, rlA, fo, foA, bu, buA, pa, mo, ms, mb, mlk, mfd, out, rf, K, KS, KC, KL, hrf, hK, hP, hD, hS, hl⟩ := h
  have hl : lv_has ls 7 [(4, .int 0), (3, .ref out), (2, .ref mo), (1, .ref w), (0, .ref b)] := hl
  generalize hAe : (fun q : Nat => s.heap.size ≤ q) = A at hG hD hS hA hbA
  have hP : va_P D vwCl [(w, .inr (7, [.ref st, .ref hi, .ref re, .ref fo, .ref bu, .ref pa])), (bu, .inr (4, [.ref buA, .int 0])), (mo, .inr (8, [.ref ms, .int 0, .ref mb, .int 0, .int 0, .ref mlk, .int 0, .ref mfd, .int 0, .int 0, .int 0, .int 0]))] H := hP.sub [0, 40, 43] rfl
  have hD : va_D A [(w, .inr (7, [.ref st, .ref hi, .ref re, .ref fo, .ref bu, .ref pa])), (bu, .inr (4, [.ref buA, .int 0])), (mo, .inr (8, [.ref ms, .int 0, .ref mb, .int 0, .int 0, .ref mlk, .int 0, .ref mfd, .int 0, .int 0, .int 0, .int 0]))] := hD.sub [0, 40, 43] (by decide) rfl
  refine lv_aload_n hx hb dL_law_1338 rfl (lv_at hl 3 rfl) ?_
  have ct := k_cut_of (wc := [(w, .inr (7, [.ref st, .ref hi, .ref re, .ref fo, .ref bu, .ref pa])), (bu, .inr (4, [.ref buA, .int 0]))]) (wr := [(mo, .inr (8, [.ref ms, .int 0, .ref mb, .int 0, .int 0, .ref mlk, .int 0, .ref mfd, .int 0, .int 0, .int 0, .int 0]))]) (tc := []) hG hS hA hK hP hD [0, 1] [2] [] rfl rfl (by decide) (by decide) (by decide) rfl
  refine k_endi (As := [.ref w]) ct (k_runV (As := []) (rest := []) S0 Lv_L_174 rfl (ci := 7) (q0 := 0) rfl rfl ct (c_W_clearB l D w st hi re fo bu pa buA H.size) hl.1 rfl (Nat.le_of_ble_eq_true rfl) rfl dL_law_1339 ⟨⟨Nat.le_of_ble_eq_true rfl, Nat.le_of_ble_eq_true rfl⟩, Nat.le_of_ble_eq_true rfl, Nat.le_of_ble_eq_true rfl⟩) rfl rfl (fun r_1 _ H locs hw_2 hP hD hK hS => ?_)
  have hK : va_K D vwCl [(K, .int), (KS, .object "BarcodeWand$State"), (KC, .char), (KL, .long)] s := hK
  have hP : va_P D vwCl [(mo, .inr (8, [.ref ms, .int 0, .ref mb, .int 0, .int 0, .ref mlk, .int 0, .ref mfd, .int 0, .int 0, .int 0, .int 0])), (w, .inr (7, [.ref st, .ref hi, .ref re, .ref fo, .ref bu, .ref pa])), (bu, .inr (4, [.ref buA, .int 0]))] H := hP
  have hD : va_D A [(mo, .inr (8, [.ref ms, .int 0, .ref mb, .int 0, .int 0, .ref mlk, .int 0, .ref mfd, .int 0, .int 0, .int 0, .int 0])), (w, .inr (7, [.ref st, .ref hi, .ref re, .ref fo, .ref bu, .ref pa])), (bu, .inr (4, [.ref buA, .int 0]))] := hD
  have hw_2 : r_1 = 0 := hw_2
  have hw_2 := hw_2.symm
  subst hw_2
  refine k_nrm (y := 0) rfl ?_
  refine lv_aload_n hx hb dL_law_1342 rfl (lv_at hl 2 rfl) ?_
  have ct := k_cut_of (wc := [(mo, .inr (8, [.ref ms, .int 0, .ref mb, .int 0, .int 0, .ref mlk, .int 0, .ref mfd, .int 0, .int 0, .int 0, .int 0]))]) (wr := [(w, .inr (7, [.ref st, .ref hi, .ref re, .ref fo, .ref bu, .ref pa])), (bu, .inr (4, [.ref buA, .int 0]))]) (tc := []) hG hS hA hK hP hD [0] [1, 2] [] rfl rfl (by decide) (by decide) (by decide) rfl
  refine k_endi (As := [.ref mo]) ct (k_runV (As := []) (rest := [.int 0]) S0 Lv_L_177 rfl (ci := 8) (q0 := 0) rfl rfl ct (c_M_clearB l D mo ms 0 mb 0 mlk 0 mfd 0 0 0 0 H.size) hl.1 rfl (Nat.le_of_ble_eq_true rfl) rfl dL_law_1343 ⟨⟨Nat.le_of_ble_eq_true rfl, Nat.le_of_ble_eq_true rfl⟩, Nat.le_of_ble_eq_true rfl, Nat.le_of_ble_eq_true rfl⟩) rfl rfl (fun r_3 _ H locs hw_4 hP hD hK hS => ?_)
  have hK : va_K D vwCl [(K, .int), (KS, .object "BarcodeWand$State"), (KC, .char), (KL, .long)] s := hK
  have hP : va_P D vwCl [(w, .inr (7, [.ref st, .ref hi, .ref re, .ref fo, .ref bu, .ref pa])), (bu, .inr (4, [.ref buA, .int 0])), (mo, .inr (8, [.ref ms, .int 0, .ref mb, .int 0, .int 0, .ref mlk, .int 0, .ref mfd, .int 0, .int 0, .int 0, .int 0]))] H := hP
  have hD : va_D A [(w, .inr (7, [.ref st, .ref hi, .ref re, .ref fo, .ref bu, .ref pa])), (bu, .inr (4, [.ref buA, .int 0])), (mo, .inr (8, [.ref ms, .int 0, .ref mb, .int 0, .int 0, .ref mlk, .int 0, .ref mfd, .int 0, .int 0, .int 0, .int 0]))] := hD
  have hw_4 : r_3 = 0 := hw_4
  have hw_4 := hw_4.symm
  subst hw_4
  refine k_nrm (y := 0) rfl ?_
  refine lv_icmp_eq (tgt := 1479) hx hb dL_law_1346 (by decide) (fun _ => ?_) (fun c9 => absurd (by decide) c9)
  exact law_end C0 (by rw [hAe]; exact hS) (lv_sub hl [0, 4] rfl) (Nat.le_of_ble_eq_true rfl) (Nat.le_of_ble_eq_true rfl)
set_option maxHeartbeats 4000000 in
set_option maxRecDepth 100000 in
theorem law_c27 {p : Program} {l : Launch} {e : Env} {s : State} {m : MethodId} {below : List Frame} {meth : Method} {c : Code} {b : Nat} {xs : Nat → Int32} (hst : l.stackTraces = false) (D : va_G) (C0 : lw_At p s m meth c b 4 xs) (hG : k_G (fun q : Nat => s.heap.size ≤ q) s s.heap) {H : Heap} {locs : List Loc} {ls : Array Slot} (h : law_I D s b H locs ls) : W p l e room_1 s m #[Value.ref b] below meth c H locs 124 2208 (lw_Z below #[Value.ref b] s) (F0 m 1351 ls []) := by
  have C1 := C0
  obtain ⟨hx, hb, hr, hml, hown, hts, hX, hbl, hlocks, hgv⟩ := C1
  have hown : s.vm.findClass RL = some m.cls := hown
  have ht : ∀ v9 ∈ wsA, v9.before #[Value.ref b] s = true := fun v9 h9 => hts v9 (wsA_tbl h9)
  have S0 : k_C p s m #[Value.ref b] c cL_law 7 RL := ⟨hx, hb, hml, hown, ht⟩
  have hbA : ¬ (fun q : Nat => s.heap.size ≤ q) b := Nat.not_le.mpr hbl
  have hA : ∀ q : Nat, s.heap.size ≤ q → (fun q : Nat => s.heap.size ≤ q) q := fun _ h9 => h9
  obtain ⟨y1, hy1⟩ : ∃ z9 : Int32, z9 = xs 1 := ⟨_, rfl⟩
  obtain ⟨y2, hy2⟩ : ∃ z9 : Int32, z9 = xs 2 := ⟨_, rfl⟩
  obtain ⟨y3, hy3⟩ : ∃ z9 : Int32, z9 = xs 3 := ⟨_, rfl⟩
  have hs0 : (upd (fun _ => 0) 93 4) 0 = 0 := rfl
  have hs51 : (upd (fun _ => 0) 93 4) 51 = 0 := rfl
  have hs93 : (upd (fun _ => 0) 93 4) 93 = 4 := rfl
  have hs94 : (upd (fun _ => 0) 93 4) 94 = 0 := rfl
  have hs125 : (upd (fun _ => 0) 93 4) 125 = 0 := rfl
  have hs126 : (upd (fun _ => 0) 93 4) 126 = 0 := rfl
  obtain ⟨w, st, la, ld, ldA, lz, lzA, me, meA, li, ln, lnA, ll, llA, lc, lcA, hi, ri, zst, zla, zld, zldA, zlz, zlzA, zme, zmeA, zli, zln, zlnA, zll, zllA, zlc, zlcA, re, rd, rdA, rl, rlA, fo, foA, bu, buA, pa, mo, ms, mb, mlk, mfd, out, rf, K, KS, KC, KL, hrf, hK, hP, hD, hS, hl⟩ := h
  have hl : lv_has ls 7 [(4, .int 0), (3, .ref out), (2, .ref mo), (1, .ref w), (0, .ref b)] := hl
  generalize hAe : (fun q : Nat => s.heap.size ≤ q) = A at hG hD hS hA hbA
  have hP : va_P D vwCl [(w, .inr (7, [.ref st, .ref hi, .ref re, .ref fo, .ref bu, .ref pa])), (bu, .inr (4, [.ref buA, .int 0])), (pa, .inr (1, [.int 0, .int 0, .int 0, .int 0, .int 0, .int 0])), (mo, .inr (8, [.ref ms, .int 0, .ref mb, .int 0, .int 0, .ref mlk, .int 0, .ref mfd, .int 0, .int 0, .int 0, .int 0]))] H := hP.sub [0, 40, 42, 43] rfl
  have hD : va_D A [(w, .inr (7, [.ref st, .ref hi, .ref re, .ref fo, .ref bu, .ref pa])), (bu, .inr (4, [.ref buA, .int 0])), (pa, .inr (1, [.int 0, .int 0, .int 0, .int 0, .int 0, .int 0])), (mo, .inr (8, [.ref ms, .int 0, .ref mb, .int 0, .int 0, .ref mlk, .int 0, .ref mfd, .int 0, .int 0, .int 0, .int 0]))] := hD.sub [0, 40, 42, 43] (by decide) rfl
  refine lv_aload_n hx hb dL_law_1351 rfl (lv_at hl 3 rfl) ?_
  have ct := k_cut_of (wc := [(w, .inr (7, [.ref st, .ref hi, .ref re, .ref fo, .ref bu, .ref pa])), (bu, .inr (4, [.ref buA, .int 0])), (pa, .inr (1, [.int 0, .int 0, .int 0, .int 0, .int 0, .int 0]))]) (wr := [(mo, .inr (8, [.ref ms, .int 0, .ref mb, .int 0, .int 0, .ref mlk, .int 0, .ref mfd, .int 0, .int 0, .int 0, .int 0]))]) (tc := []) hG hS hA hK hP hD [0, 1, 2] [3] [] rfl rfl (by decide) (by decide) (by decide) rfl
  refine k_endi (As := [.ref w]) ct (k_runV (As := []) (rest := []) S0 Lv_L_178 rfl (ci := 7) (q0 := 0) rfl rfl ct (c_W_firstError l D w st hi re fo bu pa buA H.size) hl.1 rfl (Nat.le_of_ble_eq_true rfl) rfl dL_law_1352 ⟨⟨Nat.le_of_ble_eq_true rfl, Nat.le_of_ble_eq_true rfl⟩, Nat.le_of_ble_eq_true rfl, Nat.le_of_ble_eq_true rfl⟩) rfl rfl (fun r_1 _ H locs hw_2 hP hD hK hS => ?_)
  have hK : va_K D vwCl [(K, .int), (KS, .object "BarcodeWand$State"), (KC, .char), (KL, .long)] s := hK
  have hP : va_P D vwCl [(mo, .inr (8, [.ref ms, .int 0, .ref mb, .int 0, .int 0, .ref mlk, .int 0, .ref mfd, .int 0, .int 0, .int 0, .int 0])), (w, .inr (7, [.ref st, .ref hi, .ref re, .ref fo, .ref bu, .ref pa])), (bu, .inr (4, [.ref buA, .int 0])), (pa, .inr (1, [.int 0, .int 0, .int 0, .int 0, .int 0, .int 0]))] H := hP
  have hD : va_D A [(mo, .inr (8, [.ref ms, .int 0, .ref mb, .int 0, .int 0, .ref mlk, .int 0, .ref mfd, .int 0, .int 0, .int 0, .int 0])), (w, .inr (7, [.ref st, .ref hi, .ref re, .ref fo, .ref bu, .ref pa])), (bu, .inr (4, [.ref buA, .int 0])), (pa, .inr (1, [.int 0, .int 0, .int 0, .int 0, .int 0, .int 0]))] := hD
  have hw_2 : r_1 = 0 := hw_2
  have hw_2 := hw_2.symm
  subst hw_2
  refine k_nrm (y := 0) rfl ?_
  refine lv_aload_n hx hb dL_law_1355 rfl (lv_at hl 2 rfl) ?_
  have ct := k_cut_of (wc := [(mo, .inr (8, [.ref ms, .int 0, .ref mb, .int 0, .int 0, .ref mlk, .int 0, .ref mfd, .int 0, .int 0, .int 0, .int 0]))]) (wr := [(w, .inr (7, [.ref st, .ref hi, .ref re, .ref fo, .ref bu, .ref pa])), (bu, .inr (4, [.ref buA, .int 0])), (pa, .inr (1, [.int 0, .int 0, .int 0, .int 0, .int 0, .int 0]))]) (tc := []) hG hS hA hK hP hD [0] [1, 2, 3] [] rfl rfl (by decide) (by decide) (by decide) rfl
  refine k_endi (As := [.ref mo]) ct (k_runV (As := []) (rest := [.int 0]) S0 Lv_L_181 rfl (ci := 8) (q0 := 0) rfl rfl ct (c_M_firstError l D mo ms 0 mb 0 mlk 0 mfd 0 0 0 0 H.size) hl.1 rfl (Nat.le_of_ble_eq_true rfl) rfl dL_law_1356 ⟨⟨Nat.le_of_ble_eq_true rfl, Nat.le_of_ble_eq_true rfl⟩, Nat.le_of_ble_eq_true rfl, Nat.le_of_ble_eq_true rfl⟩) rfl rfl (fun r_3 _ H locs hw_4 hP hD hK hS => ?_)
  have hK : va_K D vwCl [(K, .int), (KS, .object "BarcodeWand$State"), (KC, .char), (KL, .long)] s := hK
  have hP : va_P D vwCl [(w, .inr (7, [.ref st, .ref hi, .ref re, .ref fo, .ref bu, .ref pa])), (bu, .inr (4, [.ref buA, .int 0])), (pa, .inr (1, [.int 0, .int 0, .int 0, .int 0, .int 0, .int 0])), (mo, .inr (8, [.ref ms, .int 0, .ref mb, .int 0, .int 0, .ref mlk, .int 0, .ref mfd, .int 0, .int 0, .int 0, .int 0]))] H := hP
  have hD : va_D A [(w, .inr (7, [.ref st, .ref hi, .ref re, .ref fo, .ref bu, .ref pa])), (bu, .inr (4, [.ref buA, .int 0])), (pa, .inr (1, [.int 0, .int 0, .int 0, .int 0, .int 0, .int 0])), (mo, .inr (8, [.ref ms, .int 0, .ref mb, .int 0, .int 0, .ref mlk, .int 0, .ref mfd, .int 0, .int 0, .int 0, .int 0]))] := hD
  have hw_4 : r_3 = 0 := hw_4
  have hw_4 := hw_4.symm
  subst hw_4
  refine k_nrm (y := 0) rfl ?_
  refine lv_icmp_eq (tgt := 1479) hx hb dL_law_1359 (by decide) (fun _ => ?_) (fun c9 => absurd (by decide) c9)
  exact law_end C0 (by rw [hAe]; exact hS) (lv_sub hl [0, 4] rfl) (Nat.le_of_ble_eq_true rfl) (Nat.le_of_ble_eq_true rfl)
set_option maxHeartbeats 4000000 in
set_option maxRecDepth 100000 in
theorem law_c28 {p : Program} {l : Launch} {e : Env} {s : State} {m : MethodId} {below : List Frame} {meth : Method} {c : Code} {b : Nat} {xs : Nat → Int32} (hst : l.stackTraces = false) (D : va_G) (C0 : lw_At p s m meth c b 4 xs) (hG : k_G (fun q : Nat => s.heap.size ≤ q) s s.heap) {H : Heap} {locs : List Loc} {ls : Array Slot} (h : law_I D s b H locs ls) : W p l e room_1 s m #[Value.ref b] below meth c H locs 124 2208 (lw_Z below #[Value.ref b] s) (F0 m 1364 ls []) := by
  have C1 := C0
  obtain ⟨hx, hb, hr, hml, hown, hts, hX, hbl, hlocks, hgv⟩ := C1
  have hown : s.vm.findClass RL = some m.cls := hown
  have ht : ∀ v9 ∈ wsA, v9.before #[Value.ref b] s = true := fun v9 h9 => hts v9 (wsA_tbl h9)
  have S0 : k_C p s m #[Value.ref b] c cL_law 7 RL := ⟨hx, hb, hml, hown, ht⟩
  have hbA : ¬ (fun q : Nat => s.heap.size ≤ q) b := Nat.not_le.mpr hbl
  have hA : ∀ q : Nat, s.heap.size ≤ q → (fun q : Nat => s.heap.size ≤ q) q := fun _ h9 => h9
  obtain ⟨y1, hy1⟩ : ∃ z9 : Int32, z9 = xs 1 := ⟨_, rfl⟩
  obtain ⟨y2, hy2⟩ : ∃ z9 : Int32, z9 = xs 2 := ⟨_, rfl⟩
  obtain ⟨y3, hy3⟩ : ∃ z9 : Int32, z9 = xs 3 := ⟨_, rfl⟩
  have hs0 : (upd (fun _ => 0) 93 4) 0 = 0 := rfl
  have hs51 : (upd (fun _ => 0) 93 4) 51 = 0 := rfl
  have hs93 : (upd (fun _ => 0) 93 4) 93 = 4 := rfl
  have hs94 : (upd (fun _ => 0) 93 4) 94 = 0 := rfl
  have hs125 : (upd (fun _ => 0) 93 4) 125 = 0 := rfl
  have hs126 : (upd (fun _ => 0) 93 4) 126 = 0 := rfl
  obtain ⟨w, st, la, ld, ldA, lz, lzA, me, meA, li, ln, lnA, ll, llA, lc, lcA, hi, ri, zst, zla, zld, zldA, zlz, zlzA, zme, zmeA, zli, zln, zlnA, zll, zllA, zlc, zlcA, re, rd, rdA, rl, rlA, fo, foA, bu, buA, pa, mo, ms, mb, mlk, mfd, out, rf, K, KS, KC, KL, hrf, hK, hP, hD, hS, hl⟩ := h
  have hl : lv_has ls 7 [(4, .int 0), (3, .ref out), (2, .ref mo), (1, .ref w), (0, .ref b)] := hl
  generalize hAe : (fun q : Nat => s.heap.size ≤ q) = A at hG hD hS hA hbA
  have hP : va_P D vwCl [(w, .inr (7, [.ref st, .ref hi, .ref re, .ref fo, .ref bu, .ref pa])), (bu, .inr (4, [.ref buA, .int 0])), (pa, .inr (1, [.int 0, .int 0, .int 0, .int 0, .int 0, .int 0])), (mo, .inr (8, [.ref ms, .int 0, .ref mb, .int 0, .int 0, .ref mlk, .int 0, .ref mfd, .int 0, .int 0, .int 0, .int 0])), (out, .inl (KL, 1, .inr (.inl (fun _ => 0))))] H := hP.sub [0, 40, 42, 43, 48] rfl
  have hD : va_D A [(w, .inr (7, [.ref st, .ref hi, .ref re, .ref fo, .ref bu, .ref pa])), (bu, .inr (4, [.ref buA, .int 0])), (pa, .inr (1, [.int 0, .int 0, .int 0, .int 0, .int 0, .int 0])), (mo, .inr (8, [.ref ms, .int 0, .ref mb, .int 0, .int 0, .ref mlk, .int 0, .ref mfd, .int 0, .int 0, .int 0, .int 0])), (out, .inl (KL, 1, .inr (.inl (fun _ => 0))))] := hD.sub [0, 40, 42, 43, 48] (by decide) rfl
  refine lv_aload_n hx hb dL_law_1364 rfl (lv_at hl 3 rfl) ?_
  refine lv_aload_n hx hb dL_law_1365 rfl (lv_at hl 1 rfl) ?_
  have ct := k_cut_of (wc := [(w, .inr (7, [.ref st, .ref hi, .ref re, .ref fo, .ref bu, .ref pa])), (bu, .inr (4, [.ref buA, .int 0])), (pa, .inr (1, [.int 0, .int 0, .int 0, .int 0, .int 0, .int 0])), (out, .inl (KL, 1, .inr (.inl (fun _ => 0))))]) (wr := [(mo, .inr (8, [.ref ms, .int 0, .ref mb, .int 0, .int 0, .ref mlk, .int 0, .ref mfd, .int 0, .int 0, .int 0, .int 0]))]) (tc := [(KL, .long)]) hG hS hA hK hP hD [0, 1, 2, 4] [3] [3] rfl rfl (by decide) (by decide) (by decide) rfl
  refine k_endi (As := [.ref w, .ref out]) ct (k_runSW (As := [.ref w, .ref out]) (rest := []) S0 Ls_L_182 ct (c_L_run l hst D w st hi re fo bu pa buA out KL (fun _ => 0) H.size) hl.1 rfl (Nat.le_of_ble_eq_true rfl) rfl dL_law_1366 ⟨⟨Nat.le_of_ble_eq_true rfl, Nat.le_of_ble_eq_true rfl⟩, Nat.le_of_ble_eq_true rfl, Nat.le_of_ble_eq_true rfl⟩) rfl rfl (fun r_1 og_2 H locs hw_3 hP hD hK hS => ?_)
  have hK : va_K D vwCl [(K, .int), (KS, .object "BarcodeWand$State"), (KC, .char), (KL, .long)] s := hK
  have hP : va_P D vwCl [(mo, .inr (8, [.ref ms, .int 0, .ref mb, .int 0, .int 0, .ref mlk, .int 0, .ref mfd, .int 0, .int 0, .int 0, .int 0])), (out, .inl (KL, 1, .inr (.inl og_2)))] H := hP
  have hD : va_D A [(mo, .inr (8, [.ref ms, .int 0, .ref mb, .int 0, .int 0, .ref mlk, .int 0, .ref mfd, .int 0, .int 0, .int 0, .int 0])), (out, .inl (KL, 1, .inr (.inl og_2)))] := hD
  have hw_3 : r_1 = 1 := hw_3
  have hw_3 := hw_3.symm
  subst hw_3
  refine k_nrm (y := 1) rfl ?_
  refine lv_istore (lv' := [(5, .int 1), (4, .int 0), (3, .ref out), (2, .ref mo), (1, .ref w), (0, .ref b)]) hx hb dL_law_1369 hl (by decide) rfl (fun ls hl => ?_)
  refine lv_aload_n hx hb dL_law_1371 rfl (lv_at hl 3 rfl) ?_
  have ct := k_cut_of (wc := [(mo, .inr (8, [.ref ms, .int 0, .ref mb, .int 0, .int 0, .ref mlk, .int 0, .ref mfd, .int 0, .int 0, .int 0, .int 0]))]) (wr := [(out, .inl (KL, 1, .inr (.inl og_2)))]) (tc := []) hG hS hA hK hP hD [0] [1] [] rfl rfl (by decide) (by decide) (by decide) rfl
  refine k_endi (As := [.ref mo]) ct (k_runV (As := []) (rest := []) S0 Lv_L_185 rfl (ci := 8) (q0 := 0) rfl rfl ct (c_M_run l D mo ms 0 mb 0 mlk 0 mfd 0 0 0 0 H.size) hl.1 rfl (Nat.le_of_ble_eq_true rfl) rfl dL_law_1372 ⟨⟨Nat.le_of_ble_eq_true rfl, Nat.le_of_ble_eq_true rfl⟩, Nat.le_of_ble_eq_true rfl, Nat.le_of_ble_eq_true rfl⟩) rfl rfl (fun r_4 _ H locs hw_5 hP hD hK hS => ?_)
  have hK : va_K D vwCl [(K, .int), (KS, .object "BarcodeWand$State"), (KC, .char), (KL, .long)] s := hK
  have hP : va_P D vwCl [(out, .inl (KL, 1, .inr (.inl og_2))), (mo, .inr (8, [.ref ms, .int 0, .ref mb, .int 0, .int 1, .ref mlk, .int 0, .ref mfd, .int 0, .int 0, .int 0, .int 0]))] H := hP
  have hD : va_D A [(out, .inl (KL, 1, .inr (.inl og_2))), (mo, .inr (8, [.ref ms, .int 0, .ref mb, .int 0, .int 1, .ref mlk, .int 0, .ref mfd, .int 0, .int 0, .int 0, .int 0]))] := hD
  refine lv_istore (lv' := [(6, .int r_4), (5, .int 1), (4, .int 0), (3, .ref out), (2, .ref mo), (1, .ref w), (0, .ref b)]) hx hb dL_law_1375 hl (by decide) rfl (fun ls hl => ?_)
  refine lv_aload_n hx hb dL_law_1377 rfl (lv_at hl 4 rfl) ?_
  have ct := k_cut_of (wc := [(mo, .inr (8, [.ref ms, .int 0, .ref mb, .int 0, .int 1, .ref mlk, .int 0, .ref mfd, .int 0, .int 0, .int 0, .int 0]))]) (wr := [(out, .inl (KL, 1, .inr (.inl og_2)))]) (tc := []) hG hS hA hK hP hD [1] [0] [] rfl rfl (by decide) (by decide) (by decide) rfl
  refine k_endi (As := [.ref mo]) ct (k_runV (As := []) (rest := []) S0 Lv_L_83 rfl (ci := 8) (q0 := 0) rfl rfl ct (c_M_thrown2 l D mo ms 0 mb 0 1 mlk 0 mfd 0 0 0 0 H.size) hl.1 rfl (Nat.le_of_ble_eq_true rfl) rfl dL_law_1378 ⟨⟨Nat.le_of_ble_eq_true rfl, Nat.le_of_ble_eq_true rfl⟩, Nat.le_of_ble_eq_true rfl, Nat.le_of_ble_eq_true rfl⟩) rfl rfl (fun r_6 _ H locs hw_7 hP hD hK hS => ?_)
  have hK : va_K D vwCl [(K, .int), (KS, .object "BarcodeWand$State"), (KC, .char), (KL, .long)] s := hK
  have hP : va_P D vwCl [(out, .inl (KL, 1, .inr (.inl og_2))), (mo, .inr (8, [.ref ms, .int 0, .ref mb, .int 0, .int 1, .ref mlk, .int 0, .ref mfd, .int 0, .int 0, .int 0, .int 0]))] H := hP
  have hD : va_D A [(out, .inl (KL, 1, .inr (.inl og_2))), (mo, .inr (8, [.ref ms, .int 0, .ref mb, .int 0, .int 1, .ref mlk, .int 0, .ref mfd, .int 0, .int 0, .int 0, .int 0]))] := hD
  have hw_7 : r_6 = 1 := hw_7
  have hw_7 := hw_7.symm
  subst hw_7
  refine k_nrm (y := 1) rfl ?_
  refine lv_iload hx hb dL_law_1381 (lv_at hl 1 rfl) ?_
  refine lv_icmp_eq (tgt := 1388) hx hb dL_law_1383 (by decide) (fun _ => ?_) (fun c9 => absurd (by decide) c9)
  refine lv_iload hx hb dL_law_1388 (lv_at hl 1 rfl) ?_
  refine lv_if_ne (tgt := 1405) hx hb dL_law_1390 (by decide) (fun _ => ?_) (fun c9 => absurd c9 (by decide))
  refine lv_goto (tgt := 1479) hx hb dL_law_1405 (by decide) ?_
  exact law_end C0 (by rw [hAe]; exact hS) (lv_sub hl [2, 6] rfl) (Nat.le_of_ble_eq_true rfl) (Nat.le_of_ble_eq_true rfl)
set_option maxHeartbeats 4000000 in
set_option maxRecDepth 100000 in
theorem law_c29 {p : Program} {l : Launch} {e : Env} {s : State} {m : MethodId} {below : List Frame} {meth : Method} {c : Code} {b : Nat} {xs : Nat → Int32} (hst : l.stackTraces = false) (D : va_G) (C0 : lw_At p s m meth c b 4 xs) (hG : k_G (fun q : Nat => s.heap.size ≤ q) s s.heap) {H : Heap} {locs : List Loc} {ls : Array Slot} (h : law_I D s b H locs ls) : W p l e room_1 s m #[Value.ref b] below meth c H locs 124 2208 (lw_Z below #[Value.ref b] s) (F0 m 1408 ls []) := by
  have C1 := C0
  obtain ⟨hx, hb, hr, hml, hown, hts, hX, hbl, hlocks, hgv⟩ := C1
  have hown : s.vm.findClass RL = some m.cls := hown
  have ht : ∀ v9 ∈ wsA, v9.before #[Value.ref b] s = true := fun v9 h9 => hts v9 (wsA_tbl h9)
  have S0 : k_C p s m #[Value.ref b] c cL_law 7 RL := ⟨hx, hb, hml, hown, ht⟩
  have hbA : ¬ (fun q : Nat => s.heap.size ≤ q) b := Nat.not_le.mpr hbl
  have hA : ∀ q : Nat, s.heap.size ≤ q → (fun q : Nat => s.heap.size ≤ q) q := fun _ h9 => h9
  obtain ⟨y1, hy1⟩ : ∃ z9 : Int32, z9 = xs 1 := ⟨_, rfl⟩
  obtain ⟨y2, hy2⟩ : ∃ z9 : Int32, z9 = xs 2 := ⟨_, rfl⟩
  obtain ⟨y3, hy3⟩ : ∃ z9 : Int32, z9 = xs 3 := ⟨_, rfl⟩
  have hs0 : (upd (fun _ => 0) 93 4) 0 = 0 := rfl
  have hs51 : (upd (fun _ => 0) 93 4) 51 = 0 := rfl
  have hs93 : (upd (fun _ => 0) 93 4) 93 = 4 := rfl
  have hs94 : (upd (fun _ => 0) 93 4) 94 = 0 := rfl
  have hs125 : (upd (fun _ => 0) 93 4) 125 = 0 := rfl
  have hs126 : (upd (fun _ => 0) 93 4) 126 = 0 := rfl
  obtain ⟨w, st, la, ld, ldA, lz, lzA, me, meA, li, ln, lnA, ll, llA, lc, lcA, hi, ri, zst, zla, zld, zldA, zlz, zlzA, zme, zmeA, zli, zln, zlnA, zll, zllA, zlc, zlcA, re, rd, rdA, rl, rlA, fo, foA, bu, buA, pa, mo, ms, mb, mlk, mfd, out, rf, K, KS, KC, KL, hrf, hK, hP, hD, hS, hl⟩ := h
  have hl : lv_has ls 7 [(4, .int 0), (3, .ref out), (2, .ref mo), (1, .ref w), (0, .ref b)] := hl
  generalize hAe : (fun q : Nat => s.heap.size ≤ q) = A at hG hD hS hA hbA
  have hP : va_P D vwCl [(w, .inr (7, [.ref st, .ref hi, .ref re, .ref fo, .ref bu, .ref pa])), (hi, .inr (5, [.ref ri, .int 0, .int 0])), (mo, .inr (8, [.ref ms, .int 0, .ref mb, .int 0, .int 0, .ref mlk, .int 0, .ref mfd, .int 0, .int 0, .int 0, .int 0])), (out, .inl (KL, 1, .inr (.inl (fun _ => 0))))] H := hP.sub [0, 16, 43, 48] rfl
  have hD : va_D A [(w, .inr (7, [.ref st, .ref hi, .ref re, .ref fo, .ref bu, .ref pa])), (hi, .inr (5, [.ref ri, .int 0, .int 0])), (mo, .inr (8, [.ref ms, .int 0, .ref mb, .int 0, .int 0, .ref mlk, .int 0, .ref mfd, .int 0, .int 0, .int 0, .int 0])), (out, .inl (KL, 1, .inr (.inl (fun _ => 0))))] := hD.sub [0, 16, 43, 48] (by decide) rfl
  refine lv_aload_n hx hb dL_law_1408 rfl (lv_at hl 3 rfl) ?_
  refine lv_aload_n hx hb dL_law_1409 rfl (lv_at hl 1 rfl) ?_
  have ct := k_cut_of (wc := [(w, .inr (7, [.ref st, .ref hi, .ref re, .ref fo, .ref bu, .ref pa])), (hi, .inr (5, [.ref ri, .int 0, .int 0])), (out, .inl (KL, 1, .inr (.inl (fun _ => 0))))]) (wr := [(mo, .inr (8, [.ref ms, .int 0, .ref mb, .int 0, .int 0, .ref mlk, .int 0, .ref mfd, .int 0, .int 0, .int 0, .int 0]))]) (tc := [(KL, .long)]) hG hS hA hK hP hD [0, 1, 3] [2] [3] rfl rfl (by decide) (by decide) (by decide) rfl
  refine k_endi (As := [.ref w, .ref out]) ct (k_runSW (As := [.ref w, .ref out]) (rest := []) S0 Ls_L_186 ct (c_L_undo l hst D w st hi re fo bu pa ri out KL (fun _ => 0) H.size) hl.1 rfl (Nat.le_of_ble_eq_true rfl) rfl dL_law_1410 ⟨⟨Nat.le_of_ble_eq_true rfl, Nat.le_of_ble_eq_true rfl⟩, Nat.le_of_ble_eq_true rfl, Nat.le_of_ble_eq_true rfl⟩) rfl rfl (fun r_1 og_2 H locs hw_3 hP hD hK hS => ?_)
  have hK : va_K D vwCl [(K, .int), (KS, .object "BarcodeWand$State"), (KC, .char), (KL, .long)] s := hK
  have hP : va_P D vwCl [(mo, .inr (8, [.ref ms, .int 0, .ref mb, .int 0, .int 0, .ref mlk, .int 0, .ref mfd, .int 0, .int 0, .int 0, .int 0])), (out, .inl (KL, 1, .inr (.inl og_2)))] H := hP
  have hD : va_D A [(mo, .inr (8, [.ref ms, .int 0, .ref mb, .int 0, .int 0, .ref mlk, .int 0, .ref mfd, .int 0, .int 0, .int 0, .int 0])), (out, .inl (KL, 1, .inr (.inl og_2)))] := hD
  have hw_3 : r_1 = 1 := hw_3
  have hw_3 := hw_3.symm
  subst hw_3
  refine k_nrm (y := 1) rfl ?_
  refine lv_istore (lv' := [(5, .int 1), (4, .int 0), (3, .ref out), (2, .ref mo), (1, .ref w), (0, .ref b)]) hx hb dL_law_1413 hl (by decide) rfl (fun ls hl => ?_)
  refine lv_aload_n hx hb dL_law_1415 rfl (lv_at hl 3 rfl) ?_
  have ct := k_cut_of (wc := [(mo, .inr (8, [.ref ms, .int 0, .ref mb, .int 0, .int 0, .ref mlk, .int 0, .ref mfd, .int 0, .int 0, .int 0, .int 0]))]) (wr := [(out, .inl (KL, 1, .inr (.inl og_2)))]) (tc := []) hG hS hA hK hP hD [0] [1] [] rfl rfl (by decide) (by decide) (by decide) rfl
  refine k_endi (As := [.ref mo]) ct (k_runV (As := []) (rest := []) S0 Lv_L_188 rfl (ci := 8) (q0 := 0) rfl rfl ct (c_M_undo l D mo ms mb 0 mlk 0 mfd 0 0 0 0 H.size) hl.1 rfl (Nat.le_of_ble_eq_true rfl) rfl dL_law_1416 ⟨⟨Nat.le_of_ble_eq_true rfl, Nat.le_of_ble_eq_true rfl⟩, Nat.le_of_ble_eq_true rfl, Nat.le_of_ble_eq_true rfl⟩) rfl rfl (fun r_4 _ H locs hw_5 hP hD hK hS => ?_)
  have hK : va_K D vwCl [(K, .int), (KS, .object "BarcodeWand$State"), (KC, .char), (KL, .long)] s := hK
  have hP : va_P D vwCl [(out, .inl (KL, 1, .inr (.inl og_2))), (mo, .inr (8, [.ref ms, .int 0, .ref mb, .int 0, .int 1, .ref mlk, .int 0, .ref mfd, .int 0, .int 0, .int 0, .int 0]))] H := hP
  have hD : va_D A [(out, .inl (KL, 1, .inr (.inl og_2))), (mo, .inr (8, [.ref ms, .int 0, .ref mb, .int 0, .int 1, .ref mlk, .int 0, .ref mfd, .int 0, .int 0, .int 0, .int 0]))] := hD
  have hw_5 : r_4 = 0 := hw_5
  have hw_5 := hw_5.symm
  subst hw_5
  refine k_nrm (y := 0) rfl ?_
  refine lv_istore (lv' := [(6, .int 0), (5, .int 1), (4, .int 0), (3, .ref out), (2, .ref mo), (1, .ref w), (0, .ref b)]) hx hb dL_law_1419 hl (by decide) rfl (fun ls hl => ?_)
  refine lv_aload_n hx hb dL_law_1421 rfl (lv_at hl 4 rfl) ?_
  have ct := k_cut_of (wc := [(mo, .inr (8, [.ref ms, .int 0, .ref mb, .int 0, .int 1, .ref mlk, .int 0, .ref mfd, .int 0, .int 0, .int 0, .int 0]))]) (wr := [(out, .inl (KL, 1, .inr (.inl og_2)))]) (tc := []) hG hS hA hK hP hD [1] [0] [] rfl rfl (by decide) (by decide) (by decide) rfl
  refine k_endi (As := [.ref mo]) ct (k_runV (As := []) (rest := []) S0 Lv_L_83 rfl (ci := 8) (q0 := 0) rfl rfl ct (c_M_thrown2 l D mo ms 0 mb 0 1 mlk 0 mfd 0 0 0 0 H.size) hl.1 rfl (Nat.le_of_ble_eq_true rfl) rfl dL_law_1422 ⟨⟨Nat.le_of_ble_eq_true rfl, Nat.le_of_ble_eq_true rfl⟩, Nat.le_of_ble_eq_true rfl, Nat.le_of_ble_eq_true rfl⟩) rfl rfl (fun r_6 _ H locs hw_7 hP hD hK hS => ?_)
  have hK : va_K D vwCl [(K, .int), (KS, .object "BarcodeWand$State"), (KC, .char), (KL, .long)] s := hK
  have hP : va_P D vwCl [(out, .inl (KL, 1, .inr (.inl og_2))), (mo, .inr (8, [.ref ms, .int 0, .ref mb, .int 0, .int 1, .ref mlk, .int 0, .ref mfd, .int 0, .int 0, .int 0, .int 0]))] H := hP
  have hD : va_D A [(out, .inl (KL, 1, .inr (.inl og_2))), (mo, .inr (8, [.ref ms, .int 0, .ref mb, .int 0, .int 1, .ref mlk, .int 0, .ref mfd, .int 0, .int 0, .int 0, .int 0]))] := hD
  have hw_7 : r_6 = 1 := hw_7
  have hw_7 := hw_7.symm
  subst hw_7
  refine k_nrm (y := 1) rfl ?_
  refine lv_iload hx hb dL_law_1425 (lv_at hl 1 rfl) ?_
  refine lv_icmp_eq (tgt := 1432) hx hb dL_law_1427 (by decide) (fun _ => ?_) (fun c9 => absurd (by decide) c9)
  refine lv_iload hx hb dL_law_1432 (lv_at hl 1 rfl) ?_
  refine lv_if_ne (tgt := 1449) hx hb dL_law_1434 (by decide) (fun _ => ?_) (fun c9 => absurd c9 (by decide))
  refine lv_goto (tgt := 1479) hx hb dL_law_1449 (by decide) ?_
  exact law_end C0 (by rw [hAe]; exact hS) (lv_sub hl [2, 6] rfl) (Nat.le_of_ble_eq_true rfl) (Nat.le_of_ble_eq_true rfl)
set_option maxHeartbeats 4000000 in
set_option maxRecDepth 100000 in
theorem law_c30 {p : Program} {l : Launch} {e : Env} {s : State} {m : MethodId} {below : List Frame} {meth : Method} {c : Code} {b : Nat} {xs : Nat → Int32} (hst : l.stackTraces = false) (D : va_G) (C0 : lw_At p s m meth c b 4 xs) (hG : k_G (fun q : Nat => s.heap.size ≤ q) s s.heap) {H : Heap} {locs : List Loc} {ls : Array Slot} (h : law_I D s b H locs ls) : W p l e room_1 s m #[Value.ref b] below meth c H locs 124 2208 (lw_Z below #[Value.ref b] s) (F0 m 1452 ls []) := by
  have C1 := C0
  obtain ⟨hx, hb, hr, hml, hown, hts, hX, hbl, hlocks, hgv⟩ := C1
  have hown : s.vm.findClass RL = some m.cls := hown
  have ht : ∀ v9 ∈ wsA, v9.before #[Value.ref b] s = true := fun v9 h9 => hts v9 (wsA_tbl h9)
  have S0 : k_C p s m #[Value.ref b] c cL_law 7 RL := ⟨hx, hb, hml, hown, ht⟩
  have hbA : ¬ (fun q : Nat => s.heap.size ≤ q) b := Nat.not_le.mpr hbl
  have hA : ∀ q : Nat, s.heap.size ≤ q → (fun q : Nat => s.heap.size ≤ q) q := fun _ h9 => h9
  obtain ⟨y1, hy1⟩ : ∃ z9 : Int32, z9 = xs 1 := ⟨_, rfl⟩
  obtain ⟨y2, hy2⟩ : ∃ z9 : Int32, z9 = xs 2 := ⟨_, rfl⟩
  obtain ⟨y3, hy3⟩ : ∃ z9 : Int32, z9 = xs 3 := ⟨_, rfl⟩
  have hs0 : (upd (fun _ => 0) 93 4) 0 = 0 := rfl
  have hs51 : (upd (fun _ => 0) 93 4) 51 = 0 := rfl
  have hs93 : (upd (fun _ => 0) 93 4) 93 = 4 := rfl
  have hs94 : (upd (fun _ => 0) 93 4) 94 = 0 := rfl
  have hs125 : (upd (fun _ => 0) 93 4) 125 = 0 := rfl
  have hs126 : (upd (fun _ => 0) 93 4) 126 = 0 := rfl
  obtain ⟨w, st, la, ld, ldA, lz, lzA, me, meA, li, ln, lnA, ll, llA, lc, lcA, hi, ri, zst, zla, zld, zldA, zlz, zlzA, zme, zmeA, zli, zln, zlnA, zll, zllA, zlc, zlcA, re, rd, rdA, rl, rlA, fo, foA, bu, buA, pa, mo, ms, mb, mlk, mfd, out, rf, K, KS, KC, KL, hrf, hK, hP, hD, hS, hl⟩ := h
  have hl : lv_has ls 7 [(4, .int 0), (3, .ref out), (2, .ref mo), (1, .ref w), (0, .ref b)] := hl
  generalize hAe : (fun q : Nat => s.heap.size ≤ q) = A at hG hD hS hA hbA
  have hP : va_P D vwCl [(w, .inr (7, [.ref st, .ref hi, .ref re, .ref fo, .ref bu, .ref pa])), (hi, .inr (5, [.ref ri, .int 0, .int 0])), (mo, .inr (8, [.ref ms, .int 0, .ref mb, .int 0, .int 0, .ref mlk, .int 0, .ref mfd, .int 0, .int 0, .int 0, .int 0]))] H := hP.sub [0, 16, 43] rfl
  have hD : va_D A [(w, .inr (7, [.ref st, .ref hi, .ref re, .ref fo, .ref bu, .ref pa])), (hi, .inr (5, [.ref ri, .int 0, .int 0])), (mo, .inr (8, [.ref ms, .int 0, .ref mb, .int 0, .int 0, .ref mlk, .int 0, .ref mfd, .int 0, .int 0, .int 0, .int 0]))] := hD.sub [0, 16, 43] (by decide) rfl
  refine lv_aload_n hx hb dL_law_1452 rfl (lv_at hl 3 rfl) ?_
  have ct := k_cut_of (wc := [(w, .inr (7, [.ref st, .ref hi, .ref re, .ref fo, .ref bu, .ref pa])), (hi, .inr (5, [.ref ri, .int 0, .int 0]))]) (wr := [(mo, .inr (8, [.ref ms, .int 0, .ref mb, .int 0, .int 0, .ref mlk, .int 0, .ref mfd, .int 0, .int 0, .int 0, .int 0]))]) (tc := []) hG hS hA hK hP hD [0, 1] [2] [] rfl rfl (by decide) (by decide) (by decide) rfl
  refine k_endi (As := [.ref w]) ct (k_runV (As := []) (rest := []) S0 Lv_L_189 rfl (ci := 7) (q0 := 0) rfl rfl ct (c_W_saved l D w st hi re fo bu pa ri 0 0 H.size) hl.1 rfl (Nat.le_of_ble_eq_true rfl) rfl dL_law_1453 ⟨⟨Nat.le_of_ble_eq_true rfl, Nat.le_of_ble_eq_true rfl⟩, Nat.le_of_ble_eq_true rfl, Nat.le_of_ble_eq_true rfl⟩) rfl rfl (fun r_1 _ H locs hw_2 hP hD hK hS => ?_)
  have hK : va_K D vwCl [(K, .int), (KS, .object "BarcodeWand$State"), (KC, .char), (KL, .long)] s := hK
  have hP : va_P D vwCl [(mo, .inr (8, [.ref ms, .int 0, .ref mb, .int 0, .int 0, .ref mlk, .int 0, .ref mfd, .int 0, .int 0, .int 0, .int 0])), (w, .inr (7, [.ref st, .ref hi, .ref re, .ref fo, .ref bu, .ref pa])), (hi, .inr (5, [.ref ri, .int 0, .int 0]))] H := hP
  have hD : va_D A [(mo, .inr (8, [.ref ms, .int 0, .ref mb, .int 0, .int 0, .ref mlk, .int 0, .ref mfd, .int 0, .int 0, .int 0, .int 0])), (w, .inr (7, [.ref st, .ref hi, .ref re, .ref fo, .ref bu, .ref pa])), (hi, .inr (5, [.ref ri, .int 0, .int 0]))] := hD
  have hw_2 : r_1 = 0 := hw_2
  have hw_2 := hw_2.symm
  subst hw_2
  refine k_nrm (y := 0) rfl ?_
  refine lv_aload_n hx hb dL_law_1456 rfl (lv_at hl 2 rfl) ?_
  have ct := k_cut_of (wc := [(mo, .inr (8, [.ref ms, .int 0, .ref mb, .int 0, .int 0, .ref mlk, .int 0, .ref mfd, .int 0, .int 0, .int 0, .int 0]))]) (wr := [(w, .inr (7, [.ref st, .ref hi, .ref re, .ref fo, .ref bu, .ref pa])), (hi, .inr (5, [.ref ri, .int 0, .int 0]))]) (tc := []) hG hS hA hK hP hD [0] [1, 2] [] rfl rfl (by decide) (by decide) (by decide) rfl
  refine k_endi (As := [.ref mo]) ct (k_runV (As := []) (rest := [.int 0]) S0 Lv_L_192 rfl (ci := 8) (q0 := 0) rfl rfl ct (c_M_saved l D mo ms 0 mb 0 mlk 0 mfd 0 0 0 0 H.size) hl.1 rfl (Nat.le_of_ble_eq_true rfl) rfl dL_law_1457 ⟨⟨Nat.le_of_ble_eq_true rfl, Nat.le_of_ble_eq_true rfl⟩, Nat.le_of_ble_eq_true rfl, Nat.le_of_ble_eq_true rfl⟩) rfl rfl (fun r_3 _ H locs hw_4 hP hD hK hS => ?_)
  have hK : va_K D vwCl [(K, .int), (KS, .object "BarcodeWand$State"), (KC, .char), (KL, .long)] s := hK
  have hP : va_P D vwCl [(w, .inr (7, [.ref st, .ref hi, .ref re, .ref fo, .ref bu, .ref pa])), (hi, .inr (5, [.ref ri, .int 0, .int 0])), (mo, .inr (8, [.ref ms, .int 0, .ref mb, .int 0, .int 0, .ref mlk, .int 0, .ref mfd, .int 0, .int 0, .int 0, .int 0]))] H := hP
  have hD : va_D A [(w, .inr (7, [.ref st, .ref hi, .ref re, .ref fo, .ref bu, .ref pa])), (hi, .inr (5, [.ref ri, .int 0, .int 0])), (mo, .inr (8, [.ref ms, .int 0, .ref mb, .int 0, .int 0, .ref mlk, .int 0, .ref mfd, .int 0, .int 0, .int 0, .int 0]))] := hD
  have hw_4 : r_3 = 0 := hw_4
  have hw_4 := hw_4.symm
  subst hw_4
  refine k_nrm (y := 0) rfl ?_
  refine lv_icmp_eq (tgt := 1479) hx hb dL_law_1460 (by decide) (fun _ => ?_) (fun c9 => absurd (by decide) c9)
  exact law_end C0 (by rw [hAe]; exact hS) (lv_sub hl [0, 4] rfl) (Nat.le_of_ble_eq_true rfl) (Nat.le_of_ble_eq_true rfl)
set_option maxHeartbeats 4000000 in
set_option maxRecDepth 100000 in
theorem law_c31 {p : Program} {l : Launch} {e : Env} {s : State} {m : MethodId} {below : List Frame} {meth : Method} {c : Code} {b : Nat} {xs : Nat → Int32} (hst : l.stackTraces = false) (D : va_G) (C0 : lw_At p s m meth c b 4 xs) (hG : k_G (fun q : Nat => s.heap.size ≤ q) s s.heap) {H : Heap} {locs : List Loc} {ls : Array Slot} (h : law_I D s b H locs ls) : W p l e room_1 s m #[Value.ref b] below meth c H locs 124 2208 (lw_Z below #[Value.ref b] s) (F0 m 1465 ls []) := by
  have C1 := C0
  obtain ⟨hx, hb, hr, hml, hown, hts, hX, hbl, hlocks, hgv⟩ := C1
  have hown : s.vm.findClass RL = some m.cls := hown
  have ht : ∀ v9 ∈ wsA, v9.before #[Value.ref b] s = true := fun v9 h9 => hts v9 (wsA_tbl h9)
  have S0 : k_C p s m #[Value.ref b] c cL_law 7 RL := ⟨hx, hb, hml, hown, ht⟩
  have hbA : ¬ (fun q : Nat => s.heap.size ≤ q) b := Nat.not_le.mpr hbl
  have hA : ∀ q : Nat, s.heap.size ≤ q → (fun q : Nat => s.heap.size ≤ q) q := fun _ h9 => h9
  obtain ⟨y1, hy1⟩ : ∃ z9 : Int32, z9 = xs 1 := ⟨_, rfl⟩
  obtain ⟨y2, hy2⟩ : ∃ z9 : Int32, z9 = xs 2 := ⟨_, rfl⟩
  obtain ⟨y3, hy3⟩ : ∃ z9 : Int32, z9 = xs 3 := ⟨_, rfl⟩
  have hs0 : (upd (fun _ => 0) 93 4) 0 = 0 := rfl
  have hs51 : (upd (fun _ => 0) 93 4) 51 = 0 := rfl
  have hs93 : (upd (fun _ => 0) 93 4) 93 = 4 := rfl
  have hs94 : (upd (fun _ => 0) 93 4) 94 = 0 := rfl
  have hs125 : (upd (fun _ => 0) 93 4) 125 = 0 := rfl
  have hs126 : (upd (fun _ => 0) 93 4) 126 = 0 := rfl
  obtain ⟨w, st, la, ld, ldA, lz, lzA, me, meA, li, ln, lnA, ll, llA, lc, lcA, hi, ri, zst, zla, zld, zldA, zlz, zlzA, zme, zmeA, zli, zln, zlnA, zll, zllA, zlc, zlcA, re, rd, rdA, rl, rlA, fo, foA, bu, buA, pa, mo, ms, mb, mlk, mfd, out, rf, K, KS, KC, KL, hrf, hK, hP, hD, hS, hl⟩ := h
  have hl : lv_has ls 7 [(4, .int 0), (3, .ref out), (2, .ref mo), (1, .ref w), (0, .ref b)] := hl
  generalize hAe : (fun q : Nat => s.heap.size ≤ q) = A at hG hD hS hA hbA
  have hP : va_P D vwCl [(w, .inr (7, [.ref st, .ref hi, .ref re, .ref fo, .ref bu, .ref pa])), (st, .inr (6, [.ref la, .ref me, .ref li, .int 4, .int 0, .int 0])), (la, .inr (2, [.ref ld, .ref lz])), (ld, .inr (4, [.ref ldA, .int 0])), (lz, .inr (4, [.ref lzA, .int 0])), (me, .inr (4, [.ref meA, .int 0])), (li, .inr (0, [.ref ln, .ref ll, .ref lc])), (ln, .inr (4, [.ref lnA, .int 0])), (ll, .inr (4, [.ref llA, .int 0])), (lc, .inr (4, [.ref lcA, .int 0])), (re, .inr (3, [.ref rd, .int 0, .ref rl, .int 0, .int 0, .int 0, .int 0, .int 0])), (rd, .inr (4, [.ref rdA, .int 0])), (rl, .inr (4, [.ref rlA, .int 0])), (mo, .inr (8, [.ref ms, .int 0, .ref mb, .int 0, .int 0, .ref mlk, .int 0, .ref mfd, .int 0, .int 0, .int 0, .int 0])), (ms, .inl (K, 889, .inl (upd (fun _ => 0) 93 4)))] H := hP.sub [0, 1, 2, 3, 5, 7, 9, 10, 12, 14, 33, 34, 36, 43, 44] rfl
  have hD : va_D A [(w, .inr (7, [.ref st, .ref hi, .ref re, .ref fo, .ref bu, .ref pa])), (st, .inr (6, [.ref la, .ref me, .ref li, .int 4, .int 0, .int 0])), (la, .inr (2, [.ref ld, .ref lz])), (ld, .inr (4, [.ref ldA, .int 0])), (lz, .inr (4, [.ref lzA, .int 0])), (me, .inr (4, [.ref meA, .int 0])), (li, .inr (0, [.ref ln, .ref ll, .ref lc])), (ln, .inr (4, [.ref lnA, .int 0])), (ll, .inr (4, [.ref llA, .int 0])), (lc, .inr (4, [.ref lcA, .int 0])), (re, .inr (3, [.ref rd, .int 0, .ref rl, .int 0, .int 0, .int 0, .int 0, .int 0])), (rd, .inr (4, [.ref rdA, .int 0])), (rl, .inr (4, [.ref rlA, .int 0])), (mo, .inr (8, [.ref ms, .int 0, .ref mb, .int 0, .int 0, .ref mlk, .int 0, .ref mfd, .int 0, .int 0, .int 0, .int 0])), (ms, .inl (K, 889, .inl (upd (fun _ => 0) 93 4)))] := hD.sub [0, 1, 2, 3, 5, 7, 9, 10, 12, 14, 33, 34, 36, 43, 44] (by decide) rfl
  refine lv_aload_n hx hb dL_law_1465 rfl (lv_at hl 3 rfl) ?_
  have ct := k_cut_of (wc := [(w, .inr (7, [.ref st, .ref hi, .ref re, .ref fo, .ref bu, .ref pa])), (st, .inr (6, [.ref la, .ref me, .ref li, .int 4, .int 0, .int 0])), (la, .inr (2, [.ref ld, .ref lz])), (ld, .inr (4, [.ref ldA, .int 0])), (lz, .inr (4, [.ref lzA, .int 0])), (me, .inr (4, [.ref meA, .int 0])), (li, .inr (0, [.ref ln, .ref ll, .ref lc])), (ln, .inr (4, [.ref lnA, .int 0])), (ll, .inr (4, [.ref llA, .int 0])), (lc, .inr (4, [.ref lcA, .int 0])), (re, .inr (3, [.ref rd, .int 0, .ref rl, .int 0, .int 0, .int 0, .int 0, .int 0])), (rd, .inr (4, [.ref rdA, .int 0])), (rl, .inr (4, [.ref rlA, .int 0]))]) (wr := [(mo, .inr (8, [.ref ms, .int 0, .ref mb, .int 0, .int 0, .ref mlk, .int 0, .ref mfd, .int 0, .int 0, .int 0, .int 0])), (ms, .inl (K, 889, .inl (upd (fun _ => 0) 93 4)))]) (tc := []) hG hS hA hK hP hD [0, 1, 2, 3, 4, 5, 6, 7, 8, 9, 10, 11, 12] [13, 14] [] rfl rfl (by decide) (by decide) (by decide) rfl
  refine k_endl (As := [.ref w]) ct (k_runV (As := []) (rest := []) S0 Lv_L_193 rfl (ci := 7) (q0 := 0) rfl rfl ct (c_W_digest l D w st hi re fo bu pa la me li 4 ld lz ldA lzA meA ln ll lc lnA llA lcA rd 0 rl 0 0 0 0 0 rdA 0 rlA 0 H.size) hl.1 rfl (Nat.le_of_ble_eq_true rfl) rfl dL_law_1466 ⟨⟨Nat.le_of_ble_eq_true rfl, Nat.le_of_ble_eq_true rfl⟩, Nat.le_of_ble_eq_true rfl, Nat.le_of_ble_eq_true rfl⟩) rfl rfl (fun r_1 _ H locs hw_2 hP hD hK hS => ?_)
  have hK : va_K D vwCl [(K, .int), (KS, .object "BarcodeWand$State"), (KC, .char), (KL, .long)] s := hK
  have hP : va_P D vwCl [(mo, .inr (8, [.ref ms, .int 0, .ref mb, .int 0, .int 0, .ref mlk, .int 0, .ref mfd, .int 0, .int 0, .int 0, .int 0])), (ms, .inl (K, 889, .inl (upd (fun _ => 0) 93 4))), (w, .inr (7, [.ref st, .ref hi, .ref re, .ref fo, .ref bu, .ref pa])), (st, .inr (6, [.ref la, .ref me, .ref li, .int 4, .int 0, .int 0])), (la, .inr (2, [.ref ld, .ref lz])), (ld, .inr (4, [.ref ldA, .int 0])), (lz, .inr (4, [.ref lzA, .int 0])), (me, .inr (4, [.ref meA, .int 0])), (li, .inr (0, [.ref ln, .ref ll, .ref lc])), (ln, .inr (4, [.ref lnA, .int 0])), (ll, .inr (4, [.ref llA, .int 0])), (lc, .inr (4, [.ref lcA, .int 0])), (re, .inr (3, [.ref rd, .int 0, .ref rl, .int 0, .int 0, .int 0, .int 0, .int 0])), (rd, .inr (4, [.ref rdA, .int 0])), (rl, .inr (4, [.ref rlA, .int 0]))] H := hP
  have hD : va_D A [(mo, .inr (8, [.ref ms, .int 0, .ref mb, .int 0, .int 0, .ref mlk, .int 0, .ref mfd, .int 0, .int 0, .int 0, .int 0])), (ms, .inl (K, 889, .inl (upd (fun _ => 0) 93 4))), (w, .inr (7, [.ref st, .ref hi, .ref re, .ref fo, .ref bu, .ref pa])), (st, .inr (6, [.ref la, .ref me, .ref li, .int 4, .int 0, .int 0])), (la, .inr (2, [.ref ld, .ref lz])), (ld, .inr (4, [.ref ldA, .int 0])), (lz, .inr (4, [.ref lzA, .int 0])), (me, .inr (4, [.ref meA, .int 0])), (li, .inr (0, [.ref ln, .ref ll, .ref lc])), (ln, .inr (4, [.ref lnA, .int 0])), (ll, .inr (4, [.ref llA, .int 0])), (lc, .inr (4, [.ref lcA, .int 0])), (re, .inr (3, [.ref rd, .int 0, .ref rl, .int 0, .int 0, .int 0, .int 0, .int 0])), (rd, .inr (4, [.ref rdA, .int 0])), (rl, .inr (4, [.ref rlA, .int 0]))] := hD
  have hw_2 : r_1 = 106419480113727337 := hw_2
  have hw_2 := hw_2.symm
  subst hw_2
  refine k_nrml (y := 106419480113727337) rfl ?_
  refine lv_aload_n hx hb dL_law_1469 rfl (lv_at hl 2 rfl) ?_
  have ct := k_cut_of (wc := [(mo, .inr (8, [.ref ms, .int 0, .ref mb, .int 0, .int 0, .ref mlk, .int 0, .ref mfd, .int 0, .int 0, .int 0, .int 0])), (ms, .inl (K, 889, .inl (upd (fun _ => 0) 93 4)))]) (wr := [(w, .inr (7, [.ref st, .ref hi, .ref re, .ref fo, .ref bu, .ref pa])), (st, .inr (6, [.ref la, .ref me, .ref li, .int 4, .int 0, .int 0])), (la, .inr (2, [.ref ld, .ref lz])), (ld, .inr (4, [.ref ldA, .int 0])), (lz, .inr (4, [.ref lzA, .int 0])), (me, .inr (4, [.ref meA, .int 0])), (li, .inr (0, [.ref ln, .ref ll, .ref lc])), (ln, .inr (4, [.ref lnA, .int 0])), (ll, .inr (4, [.ref llA, .int 0])), (lc, .inr (4, [.ref lcA, .int 0])), (re, .inr (3, [.ref rd, .int 0, .ref rl, .int 0, .int 0, .int 0, .int 0, .int 0])), (rd, .inr (4, [.ref rdA, .int 0])), (rl, .inr (4, [.ref rlA, .int 0]))]) (tc := [(K, .int)]) hG hS hA hK hP hD [0, 1] [2, 3, 4, 5, 6, 7, 8, 9, 10, 11, 12, 13, 14] [0] rfl rfl (by decide) (by decide) (by decide) rfl
  refine k_endl (As := [.ref mo]) ct (k_runV (As := []) (rest := [.long 106419480113727337]) S0 Lv_L_197 rfl (ci := 8) (q0 := 0) rfl rfl ct (c_M_digest l D mo ms 0 mb 0 mlk 0 mfd 0 0 0 0 K (upd (fun _ => 0) 93 4) (by first | assumption | exact (cpf_lo (by decide)).trans (by assumption)) (by first | assumption | exact (cpf_lo (by decide)).trans (by assumption)) (by first | assumption | exact (cpf_lo (by decide)).trans (by assumption)) (by first | assumption | exact (cpf_lo (by decide)).trans (by assumption)) (by first | assumption | exact (cpf_lo (by decide)).trans (by assumption)) (by first | assumption | exact (cpf_lo (by decide)).trans (by assumption)) H.size) hl.1 rfl (Nat.le_of_ble_eq_true rfl) rfl dL_law_1470 ⟨⟨Nat.le_of_ble_eq_true rfl, Nat.le_of_ble_eq_true rfl⟩, Nat.le_of_ble_eq_true rfl, Nat.le_of_ble_eq_true rfl⟩) rfl rfl (fun r_3 _ H locs hw_4 hP hD hK hS => ?_)
  have hK : va_K D vwCl [(K, .int), (KS, .object "BarcodeWand$State"), (KC, .char), (KL, .long)] s := hK
  have hP : va_P D vwCl [(w, .inr (7, [.ref st, .ref hi, .ref re, .ref fo, .ref bu, .ref pa])), (st, .inr (6, [.ref la, .ref me, .ref li, .int 4, .int 0, .int 0])), (la, .inr (2, [.ref ld, .ref lz])), (ld, .inr (4, [.ref ldA, .int 0])), (lz, .inr (4, [.ref lzA, .int 0])), (me, .inr (4, [.ref meA, .int 0])), (li, .inr (0, [.ref ln, .ref ll, .ref lc])), (ln, .inr (4, [.ref lnA, .int 0])), (ll, .inr (4, [.ref llA, .int 0])), (lc, .inr (4, [.ref lcA, .int 0])), (re, .inr (3, [.ref rd, .int 0, .ref rl, .int 0, .int 0, .int 0, .int 0, .int 0])), (rd, .inr (4, [.ref rdA, .int 0])), (rl, .inr (4, [.ref rlA, .int 0])), (mo, .inr (8, [.ref ms, .int 0, .ref mb, .int 0, .int 0, .ref mlk, .int 0, .ref mfd, .int (-1), .int 0, .int 0, .int 0])), (ms, .inl (K, 889, .inl (upd (fun _ => 0) 93 4)))] H := hP
  have hD : va_D A [(w, .inr (7, [.ref st, .ref hi, .ref re, .ref fo, .ref bu, .ref pa])), (st, .inr (6, [.ref la, .ref me, .ref li, .int 4, .int 0, .int 0])), (la, .inr (2, [.ref ld, .ref lz])), (ld, .inr (4, [.ref ldA, .int 0])), (lz, .inr (4, [.ref lzA, .int 0])), (me, .inr (4, [.ref meA, .int 0])), (li, .inr (0, [.ref ln, .ref ll, .ref lc])), (ln, .inr (4, [.ref lnA, .int 0])), (ll, .inr (4, [.ref llA, .int 0])), (lc, .inr (4, [.ref lcA, .int 0])), (re, .inr (3, [.ref rd, .int 0, .ref rl, .int 0, .int 0, .int 0, .int 0, .int 0])), (rd, .inr (4, [.ref rdA, .int 0])), (rl, .inr (4, [.ref rlA, .int 0])), (mo, .inr (8, [.ref ms, .int 0, .ref mb, .int 0, .int 0, .ref mlk, .int 0, .ref mfd, .int (-1), .int 0, .int 0, .int 0])), (ms, .inl (K, 889, .inl (upd (fun _ => 0) 93 4)))] := hD
  have hw_4 : r_3 = 106419480113727337 := hw_4
  have hw_4 := hw_4.symm
  subst hw_4
  refine k_nrml (y := 106419480113727337) rfl ?_
  refine W.lcmp hx hb dL_law_1473 ?_
  refine k_nrm (y := 0) (by decide) ?_
  refine lv_if_eq (tgt := 1479) hx hb dL_law_1474 (by decide) (fun _ => ?_) (fun c9 => absurd (by decide) c9)
  exact law_end C0 (by rw [hAe]; exact hS) (lv_sub hl [0, 4] rfl) (Nat.le_of_ble_eq_true rfl) (Nat.le_of_ble_eq_true rfl)
