
theorem lt_x {L k : Nat} (hL : L ≤ 2048) (h : 4 * k ≤ L) : (nI L - 4 < nI (4 * k)) ↔ L < 4 * k + 4 := by
  rw [fa_lt, show (4 : Int32) = nI 4 from rfl, pk_sub_toInt (by omega) (by decide), nI_toInt (by omega)]
  omega
theorem nI_4 (k : Nat) : nI (4 * k) + 4 = nI (4 * (k + 1)) := nI_add (4 * k) 4
set_option maxHeartbeats 8000000 in
set_option maxRecDepth 100000 in
theorem law_T {p : Program} {l : Launch} {e : Env} {s : State} {m : MethodId} {below : List Frame} {meth : Method} {c : Code} {b L : Nat} {xs : Nat → Int32} (hst : l.stackTraces = false) (D : va_G) (C0 : lw_At p s m meth c b L xs) (hG : k_G (fun q : Nat => s.heap.size ≤ q) s s.heap) {a : Nat → Nat} {K KS KL KC : ClassId} {mo ms mk mfd mb out : Nat} (hK : va_K D vwCl [(K, .int), (KS, .object "BarcodeWand$State"), (KL, .long), (KC, .char)] s) (hL : L ≤ 2048) {k : Nat} (hk4 : 4 * k + 4 ≤ L) {C9 S9 Cn Sn : Nat} (hC9 : C9 + 1 ≤ Cn) (hS9 : S9 + 6 ≤ Sn) (hCn : Cn ≤ 601024) (hSn : Sn ≤ 7293034) (next : ∀ (st : ST) (hs : HT) (sc : SCT) (sf lk fd bf cf : Nat → Int32) (ofn : Nat → Int64) (ty : Nat) (th ml mf sp on tw pk pf ps pn pp pm : Int32) (H : Heap) (locs : List Loc) (ls : Array Slot), LAW st hs sf → BUR ty bf cf pm → va_P D vwCl ((mo, .inr (8, [.ref ms, .int (nI (h_kp hs)), .ref mb, .int (nI ty), .int th, .ref mk, .int ml, .ref mfd, .int mf, .int sp, .int on, .int tw])) :: (ms, .inl (K, 889, .inl sf)) :: (mk, .inl (K, 41, .inl lk)) :: (mfd, .inl (K, 9, .inl fd)) :: (mb, .inl (KC, 60, .inl cf)) :: ((a 25), .inr (4, [.ref (a 26), .int (nI ty)])) :: ((a 26), .inl (K, 60, .inl bf)) :: ((a 27), .inr (1, [.int pk, .int pf, .int ps, .int pn, .int pp, .int pm])) :: (out, .inl (KL, 1, .inr (.inl ofn))) :: (WW a K KS st hs sc)) H → va_D (fun q : Nat => s.heap.size ≤ q) ((mo, .inr (8, [.ref ms, .int (nI (h_kp hs)), .ref mb, .int (nI ty), .int th, .ref mk, .int ml, .ref mfd, .int mf, .int sp, .int on, .int tw])) :: (ms, .inl (K, 889, .inl sf)) :: (mk, .inl (K, 41, .inl lk)) :: (mfd, .inl (K, 9, .inl fd)) :: (mb, .inl (KC, 60, .inl cf)) :: ((a 25), .inr (4, [.ref (a 26), .int (nI ty)])) :: ((a 26), .inl (K, 60, .inl bf)) :: ((a 27), .inr (1, [.int pk, .int pf, .int ps, .int pn, .int pp, .int pm])) :: (out, .inl (KL, 1, .inr (.inl ofn))) :: (WW a K KS st hs sc)) → va_S (fun q : Nat => s.heap.size ≤ q) s.heap H locs → lv_has ls 7 [(4, .int (nI (4 * k))), (3, .ref out), (2, .ref mo), (1, .ref (a 0)), (0, .ref b)] → W p l e room_1 s m #[Value.ref b] below meth c H locs Cn Sn (lw_Z below #[Value.ref b] s) (F0 m 1479 ls [])) (st : ST) (hs : HT) (sc : SCT) (sf lk fd bf cf : Nat → Int32) (ofn : Nat → Int64) (ty : Nat) (th ml mf sp on tw pk pf ps pn pp pm : Int32) {H : Heap} {locs : List Loc} {ls : Array Slot} (hLW : LAW st hs sf) (hBU : BUR ty bf cf pm) (hP : va_P D vwCl ((mo, .inr (8, [.ref ms, .int (nI (h_kp hs)), .ref mb, .int (nI ty), .int th, .ref mk, .int ml, .ref mfd, .int mf, .int sp, .int on, .int tw])) :: (ms, .inl (K, 889, .inl sf)) :: (mk, .inl (K, 41, .inl lk)) :: (mfd, .inl (K, 9, .inl fd)) :: (mb, .inl (KC, 60, .inl cf)) :: ((a 25), .inr (4, [.ref (a 26), .int (nI ty)])) :: ((a 26), .inl (K, 60, .inl bf)) :: ((a 27), .inr (1, [.int pk, .int pf, .int ps, .int pn, .int pp, .int pm])) :: (out, .inl (KL, 1, .inr (.inl ofn))) :: (WW a K KS st hs sc)) H) (hD : va_D (fun q : Nat => s.heap.size ≤ q) ((mo, .inr (8, [.ref ms, .int (nI (h_kp hs)), .ref mb, .int (nI ty), .int th, .ref mk, .int ml, .ref mfd, .int mf, .int sp, .int on, .int tw])) :: (ms, .inl (K, 889, .inl sf)) :: (mk, .inl (K, 41, .inl lk)) :: (mfd, .inl (K, 9, .inl fd)) :: (mb, .inl (KC, 60, .inl cf)) :: ((a 25), .inr (4, [.ref (a 26), .int (nI ty)])) :: ((a 26), .inl (K, 60, .inl bf)) :: ((a 27), .inr (1, [.int pk, .int pf, .int ps, .int pn, .int pp, .int pm])) :: (out, .inl (KL, 1, .inr (.inl ofn))) :: (WW a K KS st hs sc))) (hS : va_S (fun q : Nat => s.heap.size ≤ q) s.heap H locs) (hl : lv_has ls 7 [(4, .int (nI (4 * k))), (3, .ref out), (2, .ref mo), (1, .ref (a 0)), (0, .ref b)]) : W p l e room_1 s m #[Value.ref b] below meth c H locs C9 S9 (lw_Z below #[Value.ref b] s) (F0 m 23 ls []) := by
  have C1 := C0
  obtain ⟨hx, hb, hr, hml, hown, hts, hX, hbl, hlocks, hgv⟩ := C1
  have hown : s.vm.findClass RL = some m.cls := hown
  have ht : ∀ v9 ∈ wsA, v9.before #[Value.ref b] s = true := fun v9 h9 => hts v9 (wsA_tbl h9)
  have S0 : k_C p s m #[Value.ref b] c cL_law 7 RL := ⟨hx, hb, hml, hown, ht⟩
  have hbA : ¬ (fun q : Nat => s.heap.size ≤ q) b := Nat.not_le.mpr hbl
  have hA : ∀ q : Nat, s.heap.size ≤ q → (fun q : Nat => s.heap.size ≤ q) q := fun _ h9 => h9
  obtain ⟨y0, hy0⟩ : ∃ z9 : Int32, z9 = xs (4 * k) := ⟨_, rfl⟩
  generalize hAe : (fun q : Nat => s.heap.size ≤ q) = A at hG hD hS hA hbA
  refine lv_iload hx hb dL_law_23 (lv_at hl 0 rfl) ?_
  refine lv_aload_n hx hb dL_law_25 rfl (lv_at hl 4 rfl) ?_
  refine va_slen hx hb hX hbl hbA hS dL_law_26 ?_
  refine k_nrm (y := nI L) rfl ?_
  refine lv_iconst (v := 4) hx hb dL_law_27 (by decide) ?_
  refine lv_isub hx hb dL_law_28 ?_
  refine k_nrm (y := (nI L - 4)) (rfl) ?_
  refine lv_icmp_gt (tgt := 1485) hx hb dL_law_29 (by decide) (fun c9 => absurd c9 (fun q9 => absurd ((lt_x hL (by omega)).mp q9) (by omega))) (fun c_1 => ?_)
  refine lv_aload_n hx hb dL_law_32 rfl (lv_at hl 4 rfl) ?_
  refine lv_iload hx hb dL_law_33 (lv_at hl 0 rfl) ?_
  refine va_sld hx hb hX hbl hbA hS (vp_in_nI (by omega) (by omega)) dL_law_35 ?_
  refine k_nrm (y := y0) ((by rw [nI_clamp (by omega)]; exact hy0.symm)) ?_
  refine lv_bipush (v := 31) hx hb dL_law_36 (by decide) ?_
  refine lv_iand hx hb dL_law_38 ?_
  refine lv_topi (fun x_2 ex_2 => ?_)
  obtain ⟨j, hj, hxj⟩ := pk_andE y0 (m := 31) 5 (by decide)
  have hxk : x_2 = nI j := ex_2.trans hxj
  have hc9 : j = 0 ∨ j = 1 ∨ j = 2 ∨ j = 3 ∨ j = 4 ∨ j = 5 ∨ j = 6 ∨ j = 7 ∨ j = 8 ∨ j = 9 ∨ j = 10 ∨ j = 11 ∨ j = 12 ∨ j = 13 ∨ j = 14 ∨ j = 15 ∨ j = 16 ∨ j = 17 ∨ j = 18 ∨ j = 19 ∨ j = 20 ∨ j = 21 ∨ j = 22 ∨ j = 23 ∨ j = 24 ∨ j = 25 ∨ j = 26 ∨ j = 27 ∨ j = 28 ∨ j = 29 ∨ j = 30 ∨ j = 31 := by omega
  subst hAe
  rcases hc9 with rfl | rfl | rfl | rfl | rfl | rfl | rfl | rfl | rfl | rfl | rfl | rfl | rfl | rfl | rfl | rfl | rfl | rfl | rfl | rfl | rfl | rfl | rfl | rfl | rfl | rfl | rfl | rfl | rfl | rfl | rfl | rfl
  · refine k_nrm (y := 0) hxk ?_
    refine lv_tableIn (x := 0) (off := 141) (tgt := 180) hx hb dL_law_39 (by decide) (by decide) (by decide) (by decide) ?_
    exact law_c0 hst D C0 hG hK hL hk4 hC9 hS9 hCn hSn next st hs sc sf lk fd bf cf ofn ty th ml mf sp on tw pk pf ps pn pp pm hLW hBU hP hD hS hl
  · refine k_nrm (y := 1) hxk ?_
    refine lv_tableIn (x := 1) (off := 209) (tgt := 248) hx hb dL_law_39 (by decide) (by decide) (by decide) (by decide) ?_
    exact law_c1 hst D C0 hG hK hL hk4 hC9 hS9 hCn hSn next st hs sc sf lk fd bf cf ofn ty th ml mf sp on tw pk pf ps pn pp pm hLW hBU hP hD hS hl
  · refine k_nrm (y := 2) hxk ?_
    refine lv_tableIn (x := 2) (off := 277) (tgt := 316) hx hb dL_law_39 (by decide) (by decide) (by decide) (by decide) ?_
    exact law_c2 hst D C0 hG hK hL hk4 hC9 hS9 hCn hSn next st hs sc sf lk fd bf cf ofn ty th ml mf sp on tw pk pf ps pn pp pm hLW hBU hP hD hS hl
  · refine k_nrm (y := 3) hxk ?_
    refine lv_tableIn (x := 3) (off := 290) (tgt := 329) hx hb dL_law_39 (by decide) (by decide) (by decide) (by decide) ?_
    exact law_c3 hst D C0 hG hK hL hk4 hC9 hS9 hCn hSn next st hs sc sf lk fd bf cf ofn ty th ml mf sp on tw pk pf ps pn pp pm hLW hBU hP hD hS hl
  · refine k_nrm (y := 4) hxk ?_
    refine lv_tableIn (x := 4) (off := 346) (tgt := 385) hx hb dL_law_39 (by decide) (by decide) (by decide) (by decide) ?_
    exact law_c4 hst D C0 hG hK hL hk4 hC9 hS9 hCn hSn next st hs sc sf lk fd bf cf ofn ty th ml mf sp on tw pk pf ps pn pp pm hLW hBU hP hD hS hl
  · refine k_nrm (y := 5) hxk ?_
    refine lv_tableIn (x := 5) (off := 402) (tgt := 441) hx hb dL_law_39 (by decide) (by decide) (by decide) (by decide) ?_
    exact law_c5 hst D C0 hG hK hL hk4 hC9 hS9 hCn hSn next st hs sc sf lk fd bf cf ofn ty th ml mf sp on tw pk pf ps pn pp pm hLW hBU hP hD hS hl
  · refine k_nrm (y := 6) hxk ?_
    refine lv_tableIn (x := 6) (off := 498) (tgt := 537) hx hb dL_law_39 (by decide) (by decide) (by decide) (by decide) ?_
    exact law_c6 hst D C0 hG hK hL hk4 hC9 hS9 hCn hSn next st hs sc sf lk fd bf cf ofn ty th ml mf sp on tw pk pf ps pn pp pm hLW hBU hP hD hS hl
  · refine k_nrm (y := 7) hxk ?_
    refine lv_tableIn (x := 7) (off := 554) (tgt := 593) hx hb dL_law_39 (by decide) (by decide) (by decide) (by decide) ?_
    exact law_c7 hst D C0 hG hK hL hk4 hC9 hS9 hCn hSn next st hs sc sf lk fd bf cf ofn ty th ml mf sp on tw pk pf ps pn pp pm hLW hBU hP hD hS hl
  · refine k_nrm (y := 8) hxk ?_
    refine lv_tableIn (x := 8) (off := 567) (tgt := 606) hx hb dL_law_39 (by decide) (by decide) (by decide) (by decide) ?_
    exact law_c8 hst D C0 hG hK hL hk4 hC9 hS9 hCn hSn next st hs sc sf lk fd bf cf ofn ty th ml mf sp on tw pk pf ps pn pp pm hLW hBU hP hD hS hl
  · refine k_nrm (y := 9) hxk ?_
    refine lv_tableIn (x := 9) (off := 580) (tgt := 619) hx hb dL_law_39 (by decide) (by decide) (by decide) (by decide) ?_
    exact law_c9 hst D C0 hG hK hL hk4 hC9 hS9 hCn hSn next st hs sc sf lk fd bf cf ofn ty th ml mf sp on tw pk pf ps pn pp pm hLW hBU hP hD hS hl
  · refine k_nrm (y := 10) hxk ?_
    refine lv_tableIn (x := 10) (off := 593) (tgt := 632) hx hb dL_law_39 (by decide) (by decide) (by decide) (by decide) ?_
    exact law_c10 hst D C0 hG hK hL hk4 hC9 hS9 hCn hSn next st hs sc sf lk fd bf cf ofn ty th ml mf sp on tw pk pf ps pn pp pm hLW hBU hP hD hS hl
  · refine k_nrm (y := 11) hxk ?_
    refine lv_tableIn (x := 11) (off := 649) (tgt := 688) hx hb dL_law_39 (by decide) (by decide) (by decide) (by decide) ?_
    exact law_c11 hst D C0 hG hK hL hk4 hC9 hS9 hCn hSn next st hs sc sf lk fd bf cf ofn ty th ml mf sp on tw pk pf ps pn pp pm hLW hBU hP hD hS hl
  · refine k_nrm (y := 12) hxk ?_
    refine lv_tableIn (x := 12) (off := 705) (tgt := 744) hx hb dL_law_39 (by decide) (by decide) (by decide) (by decide) ?_
    exact law_c12 hst D C0 hG hK hL hk4 hC9 hS9 hCn hSn next st hs sc sf lk fd bf cf ofn ty th ml mf sp on tw pk pf ps pn pp pm hLW hBU hP hD hS hl
  · refine k_nrm (y := 13) hxk ?_
    refine lv_tableIn (x := 13) (off := 718) (tgt := 757) hx hb dL_law_39 (by decide) (by decide) (by decide) (by decide) ?_
    exact law_c13 hst D C0 hG hK hL hk4 hC9 hS9 hCn hSn next st hs sc sf lk fd bf cf ofn ty th ml mf sp on tw pk pf ps pn pp pm hLW hBU hP hD hS hl
  · refine k_nrm (y := 14) hxk ?_
    refine lv_tableIn (x := 14) (off := 759) (tgt := 798) hx hb dL_law_39 (by decide) (by decide) (by decide) (by decide) ?_
    exact law_c14 hst D C0 hG hK hL hk4 hC9 hS9 hCn hSn next st hs sc sf lk fd bf cf ofn ty th ml mf sp on tw pk pf ps pn pp pm hLW hBU hP hD hS hl
  · refine k_nrm (y := 15) hxk ?_
    refine lv_tableIn (x := 15) (off := 815) (tgt := 854) hx hb dL_law_39 (by decide) (by decide) (by decide) (by decide) ?_
    exact law_c15 hst D C0 hG hK hL hk4 hC9 hS9 hCn hSn next st hs sc sf lk fd bf cf ofn ty th ml mf sp on tw pk pf ps pn pp pm hLW hBU hP hD hS hl
  · refine k_nrm (y := 16) hxk ?_
    refine lv_tableIn (x := 16) (off := 871) (tgt := 910) hx hb dL_law_39 (by decide) (by decide) (by decide) (by decide) ?_
    exact law_c16 hst D C0 hG hK hL hk4 hC9 hS9 hCn hSn next st hs sc sf lk fd bf cf ofn ty th ml mf sp on tw pk pf ps pn pp pm hLW hBU hP hD hS hl
  · refine k_nrm (y := 17) hxk ?_
    refine lv_tableIn (x := 17) (off := 884) (tgt := 923) hx hb dL_law_39 (by decide) (by decide) (by decide) (by decide) ?_
    exact law_c17 hst D C0 hG hK hL hk4 hC9 hS9 hCn hSn next st hs sc sf lk fd bf cf ofn ty th ml mf sp on tw pk pf ps pn pp pm hLW hBU hP hD hS hl
  · refine k_nrm (y := 18) hxk ?_
    refine lv_tableIn (x := 18) (off := 940) (tgt := 979) hx hb dL_law_39 (by decide) (by decide) (by decide) (by decide) ?_
    exact law_c18 hst D C0 hG hK hL hk4 hC9 hS9 hCn hSn next st hs sc sf lk fd bf cf ofn ty th ml mf sp on tw pk pf ps pn pp pm hLW hBU hP hD hS hl
  · refine k_nrm (y := 19) hxk ?_
    refine lv_tableIn (x := 19) (off := 996) (tgt := 1035) hx hb dL_law_39 (by decide) (by decide) (by decide) (by decide) ?_
    exact law_c19 hst D C0 hG hK hL hk4 hC9 hS9 hCn hSn next st hs sc sf lk fd bf cf ofn ty th ml mf sp on tw pk pf ps pn pp pm hLW hBU hP hD hS hl
  · refine k_nrm (y := 20) hxk ?_
    refine lv_tableIn (x := 20) (off := 1052) (tgt := 1091) hx hb dL_law_39 (by decide) (by decide) (by decide) (by decide) ?_
    exact law_c20 hst D C0 hG hK hL hk4 hC9 hS9 hCn hSn next st hs sc sf lk fd bf cf ofn ty th ml mf sp on tw pk pf ps pn pp pm hLW hBU hP hD hS hl
  · refine k_nrm (y := 21) hxk ?_
    refine lv_tableIn (x := 21) (off := 1065) (tgt := 1104) hx hb dL_law_39 (by decide) (by decide) (by decide) (by decide) ?_
    exact law_c21 hst D C0 hG hK hL hk4 hC9 hS9 hCn hSn next st hs sc sf lk fd bf cf ofn ty th ml mf sp on tw pk pf ps pn pp pm hLW hBU hP hD hS hl
  · refine k_nrm (y := 22) hxk ?_
    refine lv_tableIn (x := 22) (off := 1078) (tgt := 1117) hx hb dL_law_39 (by decide) (by decide) (by decide) (by decide) ?_
    exact law_c22 hst D C0 hG hK hL hk4 hC9 hS9 hCn hSn next st hs sc sf lk fd bf cf ofn ty th ml mf sp on tw pk pf ps pn pp pm hLW hBU hP hD hS hl
  · refine k_nrm (y := 23) hxk ?_
    refine lv_tableIn (x := 23) (off := 1174) (tgt := 1213) hx hb dL_law_39 (by decide) (by decide) (by decide) (by decide) ?_
    exact law_c23 hst D C0 hG hK hL hk4 hC9 hS9 hCn hSn next st hs sc sf lk fd bf cf ofn ty th ml mf sp on tw pk pf ps pn pp pm hLW hBU hP hD hS hl
  · refine k_nrm (y := 24) hxk ?_
    refine lv_tableIn (x := 24) (off := 1230) (tgt := 1269) hx hb dL_law_39 (by decide) (by decide) (by decide) (by decide) ?_
    exact law_c24 hst D C0 hG hK hL hk4 hC9 hS9 hCn hSn next st hs sc sf lk fd bf cf ofn ty th ml mf sp on tw pk pf ps pn pp pm hLW hBU hP hD hS hl
  · refine k_nrm (y := 25) hxk ?_
    refine lv_tableIn (x := 25) (off := 1243) (tgt := 1282) hx hb dL_law_39 (by decide) (by decide) (by decide) (by decide) ?_
    exact law_c25 hst D C0 hG hK hL hk4 hC9 hS9 hCn hSn next st hs sc sf lk fd bf cf ofn ty th ml mf sp on tw pk pf ps pn pp pm hLW hBU hP hD hS hl
  · refine k_nrm (y := 26) hxk ?_
    refine lv_tableIn (x := 26) (off := 1299) (tgt := 1338) hx hb dL_law_39 (by decide) (by decide) (by decide) (by decide) ?_
    exact law_c26 hst D C0 hG hK hL hk4 hC9 hS9 hCn hSn next st hs sc sf lk fd bf cf ofn ty th ml mf sp on tw pk pf ps pn pp pm hLW hBU hP hD hS hl
  · refine k_nrm (y := 27) hxk ?_
    refine lv_tableIn (x := 27) (off := 1312) (tgt := 1351) hx hb dL_law_39 (by decide) (by decide) (by decide) (by decide) ?_
    exact law_c27 hst D C0 hG hK hL hk4 hC9 hS9 hCn hSn next st hs sc sf lk fd bf cf ofn ty th ml mf sp on tw pk pf ps pn pp pm hLW hBU hP hD hS hl
  · refine k_nrm (y := 28) hxk ?_
    refine lv_tableIn (x := 28) (off := 1325) (tgt := 1364) hx hb dL_law_39 (by decide) (by decide) (by decide) (by decide) ?_
    exact law_c28 hst D C0 hG hK hL hk4 hC9 hS9 hCn hSn next st hs sc sf lk fd bf cf ofn ty th ml mf sp on tw pk pf ps pn pp pm hLW hBU hP hD hS hl
  · refine k_nrm (y := 29) hxk ?_
    refine lv_tableIn (x := 29) (off := 1369) (tgt := 1408) hx hb dL_law_39 (by decide) (by decide) (by decide) (by decide) ?_
    exact law_c29 hst D C0 hG hK hL hk4 hC9 hS9 hCn hSn next st hs sc sf lk fd bf cf ofn ty th ml mf sp on tw pk pf ps pn pp pm hLW hBU hP hD hS hl
  · refine k_nrm (y := 30) hxk ?_
    refine lv_tableIn (x := 30) (off := 1413) (tgt := 1452) hx hb dL_law_39 (by decide) (by decide) (by decide) (by decide) ?_
    exact law_c30 hst D C0 hG hK hL hk4 hC9 hS9 hCn hSn next st hs sc sf lk fd bf cf ofn ty th ml mf sp on tw pk pf ps pn pp pm hLW hBU hP hD hS hl
  · refine k_nrm (y := 31) hxk ?_
    refine lv_tableIn (x := 31) (off := 1426) (tgt := 1465) hx hb dL_law_39 (by decide) (by decide) (by decide) (by decide) ?_
    exact law_c31 hst D C0 hG hK hL hk4 hC9 hS9 hCn hSn next st hs sc sf lk fd bf cf ofn ty th ml mf sp on tw pk pf ps pn pp pm hLW hBU hP hD hS hl
set_option maxHeartbeats 8000000 in
set_option maxRecDepth 100000 in
theorem law_N {p : Program} {l : Launch} {e : Env} {s : State} {m : MethodId} {below : List Frame} {meth : Method} {c : Code} {b L : Nat} {xs : Nat → Int32} (hst : l.stackTraces = false) (D : va_G) (C0 : lw_At p s m meth c b L xs) (hG : k_G (fun q : Nat => s.heap.size ≤ q) s s.heap) {a : Nat → Nat} {K KS KL KC : ClassId} {mo ms mk mfd mb out : Nat} (hK : va_K D vwCl [(K, .int), (KS, .object "BarcodeWand$State"), (KL, .long), (KC, .char)] s) (hL : L ≤ 2048) {k : Nat} {C9 S9 : Nat} (nx : ∀ (st : ST) (hs : HT) (sc : SCT) (sf lk fd bf cf : Nat → Int32) (ofn : Nat → Int64) (ty : Nat) (th ml mf sp on tw pk pf ps pn pp pm : Int32) (H : Heap) (locs : List Loc) (ls : Array Slot), LAW st hs sf → BUR ty bf cf pm → va_P D vwCl ((mo, .inr (8, [.ref ms, .int (nI (h_kp hs)), .ref mb, .int (nI ty), .int th, .ref mk, .int ml, .ref mfd, .int mf, .int sp, .int on, .int tw])) :: (ms, .inl (K, 889, .inl sf)) :: (mk, .inl (K, 41, .inl lk)) :: (mfd, .inl (K, 9, .inl fd)) :: (mb, .inl (KC, 60, .inl cf)) :: ((a 25), .inr (4, [.ref (a 26), .int (nI ty)])) :: ((a 26), .inl (K, 60, .inl bf)) :: ((a 27), .inr (1, [.int pk, .int pf, .int ps, .int pn, .int pp, .int pm])) :: (out, .inl (KL, 1, .inr (.inl ofn))) :: (WW a K KS st hs sc)) H → va_D (fun q : Nat => s.heap.size ≤ q) ((mo, .inr (8, [.ref ms, .int (nI (h_kp hs)), .ref mb, .int (nI ty), .int th, .ref mk, .int ml, .ref mfd, .int mf, .int sp, .int on, .int tw])) :: (ms, .inl (K, 889, .inl sf)) :: (mk, .inl (K, 41, .inl lk)) :: (mfd, .inl (K, 9, .inl fd)) :: (mb, .inl (KC, 60, .inl cf)) :: ((a 25), .inr (4, [.ref (a 26), .int (nI ty)])) :: ((a 26), .inl (K, 60, .inl bf)) :: ((a 27), .inr (1, [.int pk, .int pf, .int ps, .int pn, .int pp, .int pm])) :: (out, .inl (KL, 1, .inr (.inl ofn))) :: (WW a K KS st hs sc)) → va_S (fun q : Nat => s.heap.size ≤ q) s.heap H locs → lv_has ls 7 [(4, .int (nI (4 * (k + 1)))), (3, .ref out), (2, .ref mo), (1, .ref (a 0)), (0, .ref b)] → W p l e room_1 s m #[Value.ref b] below meth c H locs C9 S9 (lw_Z below #[Value.ref b] s) (F0 m 23 ls [])) (st : ST) (hs : HT) (sc : SCT) (sf lk fd bf cf : Nat → Int32) (ofn : Nat → Int64) (ty : Nat) (th ml mf sp on tw pk pf ps pn pp pm : Int32) {H : Heap} {locs : List Loc} {ls : Array Slot} (hLW : LAW st hs sf) (hBU : BUR ty bf cf pm) (hP : va_P D vwCl ((mo, .inr (8, [.ref ms, .int (nI (h_kp hs)), .ref mb, .int (nI ty), .int th, .ref mk, .int ml, .ref mfd, .int mf, .int sp, .int on, .int tw])) :: (ms, .inl (K, 889, .inl sf)) :: (mk, .inl (K, 41, .inl lk)) :: (mfd, .inl (K, 9, .inl fd)) :: (mb, .inl (KC, 60, .inl cf)) :: ((a 25), .inr (4, [.ref (a 26), .int (nI ty)])) :: ((a 26), .inl (K, 60, .inl bf)) :: ((a 27), .inr (1, [.int pk, .int pf, .int ps, .int pn, .int pp, .int pm])) :: (out, .inl (KL, 1, .inr (.inl ofn))) :: (WW a K KS st hs sc)) H) (hD : va_D (fun q : Nat => s.heap.size ≤ q) ((mo, .inr (8, [.ref ms, .int (nI (h_kp hs)), .ref mb, .int (nI ty), .int th, .ref mk, .int ml, .ref mfd, .int mf, .int sp, .int on, .int tw])) :: (ms, .inl (K, 889, .inl sf)) :: (mk, .inl (K, 41, .inl lk)) :: (mfd, .inl (K, 9, .inl fd)) :: (mb, .inl (KC, 60, .inl cf)) :: ((a 25), .inr (4, [.ref (a 26), .int (nI ty)])) :: ((a 26), .inl (K, 60, .inl bf)) :: ((a 27), .inr (1, [.int pk, .int pf, .int ps, .int pn, .int pp, .int pm])) :: (out, .inl (KL, 1, .inr (.inl ofn))) :: (WW a K KS st hs sc))) (hS : va_S (fun q : Nat => s.heap.size ≤ q) s.heap H locs) (hl : lv_has ls 7 [(4, .int (nI (4 * k))), (3, .ref out), (2, .ref mo), (1, .ref (a 0)), (0, .ref b)]) : W p l e room_1 s m #[Value.ref b] below meth c H locs C9 S9 (lw_Z below #[Value.ref b] s) (F0 m 1479 ls []) := by
  have C1 := C0
  obtain ⟨hx, hb, hr, hml, hown, hts, hX, hbl, hlocks, hgv⟩ := C1
  have hown : s.vm.findClass RL = some m.cls := hown
  have ht : ∀ v9 ∈ wsA, v9.before #[Value.ref b] s = true := fun v9 h9 => hts v9 (wsA_tbl h9)
  have S0 : k_C p s m #[Value.ref b] c cL_law 7 RL := ⟨hx, hb, hml, hown, ht⟩
  have hbA : ¬ (fun q : Nat => s.heap.size ≤ q) b := Nat.not_le.mpr hbl
  have hA : ∀ q : Nat, s.heap.size ≤ q → (fun q : Nat => s.heap.size ≤ q) q := fun _ h9 => h9
  generalize hAe : (fun q : Nat => s.heap.size ≤ q) = A at hG hD hS hA hbA
  obtain ⟨x_1, ex_1⟩ : ∃ z : Int32, z = (nI (4 * k)) + 4 := ⟨_, rfl⟩
  refine lv_iinc (v := x_1) (lv' := [(4, .int x_1), (3, .ref out), (2, .ref mo), (1, .ref (a 0)), (0, .ref b)]) hx hb dL_law_1479 hl (k := 0) rfl (by rw [ex_1]; rfl) (by decide) rfl (fun ls hl => ?_)
  refine lv_goto (tgt := 23) hx hb dL_law_1482 (by decide) ?_
  have he9 : x_1 = (nI (4 * (k + 1))) := by rw [ex_1]; exact nI_4 k
  rw [he9] at hl
  have hl : lv_has ls 7 [(4, .int (nI (4 * (k + 1)))), (3, .ref out), (2, .ref mo), (1, .ref (a 0)), (0, .ref b)] := hl
  subst hAe
  exact nx st hs sc sf lk fd bf cf ofn ty th ml mf sp on tw pk pf ps pn pp pm H locs ls hLW hBU hP hD hS (lv_sub hl [0, 1, 2, 3, 4] rfl)
set_option maxHeartbeats 8000000 in
set_option maxRecDepth 100000 in
theorem law_E {p : Program} {l : Launch} {e : Env} {s : State} {m : MethodId} {below : List Frame} {meth : Method} {c : Code} {b L : Nat} {xs : Nat → Int32} (hst : l.stackTraces = false) (D : va_G) (C0 : lw_At p s m meth c b L xs) (hG : k_G (fun q : Nat => s.heap.size ≤ q) s s.heap) {a : Nat → Nat} {K KS KL KC : ClassId} {mo ms mk mfd mb out : Nat} (hK : va_K D vwCl [(K, .int), (KS, .object "BarcodeWand$State"), (KL, .long), (KC, .char)] s) (hL : L ≤ 2048) {k : Nat} (hk1 : 4 * k ≤ L) (hk2 : L < 4 * k + 4) {C9 S9 : Nat} (hC9 : C9 ≤ 601024) (hS9 : S9 ≤ 7293034) (st : ST) (hs : HT) (sc : SCT) (sf lk fd bf cf : Nat → Int32) (ofn : Nat → Int64) (ty : Nat) (th ml mf sp on tw pk pf ps pn pp pm : Int32) {H : Heap} {locs : List Loc} {ls : Array Slot} (hLW : LAW st hs sf) (hBU : BUR ty bf cf pm) (hP : va_P D vwCl ((mo, .inr (8, [.ref ms, .int (nI (h_kp hs)), .ref mb, .int (nI ty), .int th, .ref mk, .int ml, .ref mfd, .int mf, .int sp, .int on, .int tw])) :: (ms, .inl (K, 889, .inl sf)) :: (mk, .inl (K, 41, .inl lk)) :: (mfd, .inl (K, 9, .inl fd)) :: (mb, .inl (KC, 60, .inl cf)) :: ((a 25), .inr (4, [.ref (a 26), .int (nI ty)])) :: ((a 26), .inl (K, 60, .inl bf)) :: ((a 27), .inr (1, [.int pk, .int pf, .int ps, .int pn, .int pp, .int pm])) :: (out, .inl (KL, 1, .inr (.inl ofn))) :: (WW a K KS st hs sc)) H) (hD : va_D (fun q : Nat => s.heap.size ≤ q) ((mo, .inr (8, [.ref ms, .int (nI (h_kp hs)), .ref mb, .int (nI ty), .int th, .ref mk, .int ml, .ref mfd, .int mf, .int sp, .int on, .int tw])) :: (ms, .inl (K, 889, .inl sf)) :: (mk, .inl (K, 41, .inl lk)) :: (mfd, .inl (K, 9, .inl fd)) :: (mb, .inl (KC, 60, .inl cf)) :: ((a 25), .inr (4, [.ref (a 26), .int (nI ty)])) :: ((a 26), .inl (K, 60, .inl bf)) :: ((a 27), .inr (1, [.int pk, .int pf, .int ps, .int pn, .int pp, .int pm])) :: (out, .inl (KL, 1, .inr (.inl ofn))) :: (WW a K KS st hs sc))) (hS : va_S (fun q : Nat => s.heap.size ≤ q) s.heap H locs) (hl : lv_has ls 7 [(4, .int (nI (4 * k))), (3, .ref out), (2, .ref mo), (1, .ref (a 0)), (0, .ref b)]) : W p l e room_1 s m #[Value.ref b] below meth c H locs C9 S9 (lw_Z below #[Value.ref b] s) (F0 m 23 ls []) := by
  have C1 := C0
  obtain ⟨hx, hb, hr, hml, hown, hts, hX, hbl, hlocks, hgv⟩ := C1
  have hown : s.vm.findClass RL = some m.cls := hown
  have ht : ∀ v9 ∈ wsA, v9.before #[Value.ref b] s = true := fun v9 h9 => hts v9 (wsA_tbl h9)
  have S0 : k_C p s m #[Value.ref b] c cL_law 7 RL := ⟨hx, hb, hml, hown, ht⟩
  have hbA : ¬ (fun q : Nat => s.heap.size ≤ q) b := Nat.not_le.mpr hbl
  have hA : ∀ q : Nat, s.heap.size ≤ q → (fun q : Nat => s.heap.size ≤ q) q := fun _ h9 => h9
  generalize hAe : (fun q : Nat => s.heap.size ≤ q) = A at hG hD hS hA hbA
  refine lv_iload hx hb dL_law_23 (lv_at hl 0 rfl) ?_
  refine lv_aload_n hx hb dL_law_25 rfl (lv_at hl 4 rfl) ?_
  refine va_slen hx hb hX hbl hbA hS dL_law_26 ?_
  refine k_nrm (y := nI L) rfl ?_
  refine lv_iconst (v := 4) hx hb dL_law_27 (by decide) ?_
  refine lv_isub hx hb dL_law_28 ?_
  refine k_nrm (y := (nI L - 4)) (rfl) ?_
  refine lv_icmp_gt (tgt := 1485) hx hb dL_law_29 (by decide) (fun c_1 => ?_) (fun c9 => absurd ((lt_x hL hk1).mpr hk2) c9)
  subst hAe
  refine lv_iconst (v := 1) hx hb dL_law_1485 (by decide) ?_
  refine va_forget (fun q hq => hS.2.2 q hq) ?_
  refine W.widen (k := 601024) (n := 7293034) (by omega) (by omega) ?_
  exact lw_ret hx hb hr hlocks dL_law_1486
