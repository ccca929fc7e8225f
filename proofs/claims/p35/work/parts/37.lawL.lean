
set_option maxHeartbeats 8000000 in
set_option maxRecDepth 100000 in
theorem law_E {p : Program} {l : Launch} {e : Env} {s : State} {m : MethodId} {below : List Frame} {meth : Method} {c : Code} {b L : Nat} {xs : Nat → Int32} (hst : l.stackTraces = false) (D : va_G) (C0 : lw_At p s m meth c b L xs) (hG : k_G (fun q : Nat => s.heap.size ≤ q) s s.heap) {a : Nat → Nat} {K KS : ClassId} (hK : va_K D vwCl [(K, .int), (KS, .object "BarcodeWand$State")] s) {C9 S9 : Nat} (hC9 : C9 + 2 ≤ 690337) (hS9 : S9 + 12 ≤ 7030456) (st : ST) (hs : HT) (sc : SCT) {H : Heap} {locs : List Loc} {ls : Array Slot} (hii : invS 40 st) (hh : okH hs) (hP : va_P D vwCl (WW a K KS st hs sc) H) (hD : va_D (fun q : Nat => s.heap.size ≤ q) (WW a K KS st hs sc)) (hS : va_S (fun q : Nat => s.heap.size ≤ q) s.heap H locs) (hl : lv_has ls 10 [(3, .int (nI 40)), (2, .int 1), (1, .ref (a 0)), (0, .ref b)]) : W p l e room_1 s m #[Value.ref b] below meth c H locs C9 S9 (lw_Z below #[Value.ref b] s) (F0 m 33 ls []) := by
  have C1 := C0
  obtain ⟨hx, hb, hr, hml, hown, hts, hX, hbl, hlocks, hgv⟩ := C1
  have hown : s.vm.findClass RL = some m.cls := hown
  have ht : ∀ v9 ∈ wsA, v9.before #[Value.ref b] s = true := fun v9 h9 => hts v9 (wsA_tbl h9)
  have S0 : k_C p s m #[Value.ref b] c cL_law 10 RL := ⟨hx, hb, hml, hown, ht⟩
  have hbA : ¬ (fun q : Nat => s.heap.size ≤ q) b := Nat.not_le.mpr hbl
  have hA : ∀ q : Nat, s.heap.size ≤ q → (fun q : Nat => s.heap.size ≤ q) q := fun _ h9 => h9
  generalize hAe : (fun q : Nat => s.heap.size ≤ q) = A at hG hD hS hA hbA
  refine lv_iload_n hx hb dL_law_33 rfl (lv_at hl 0 rfl) ?_
  refine lv_bipush (v := 40) hx hb dL_law_34 (by decide) ?_
  refine lv_icmp_ge (tgt := 370) hx hb dL_law_36 (by decide) (fun c_1 => ?_) (fun c9 => absurd (nI_le (a := 40) (b := 40) (Nat.le_refl _) (by decide)) c9)
  refine lv_iload_n hx hb dL_law_370 rfl (lv_at hl 1 rfl) ?_
  refine lv_if_eq (tgt := 385) hx hb dL_law_371 (by decide) (fun c9 => absurd c9 (by decide)) (fun _ => ?_)
  refine lv_aload_n hx hb dL_law_374 rfl (lv_at hl 2 rfl) ?_
  have ct := k_cut_TT (wp := []) (T := (WW a K KS st hs sc)) (wc := []) (wr := []) (tc := [(K, .int), (KS, .object "BarcodeWand$State")]) hG hS hA hK hP hD [] [] [0, 1] rfl rfl (by decide) (by decide) (by decide) rfl
  refine k_endi (As := [.ref (a 0)]) ct (k_runS (As := [.ref (a 0)]) (rest := []) S0 Ls_L_157 ct (c_L_hangs l hst D a K KS st hs sc 40 hii (by decide) H.size) hl.1 rfl (Nat.le_of_ble_eq_true rfl) rfl dL_law_375 ⟨⟨Nat.le_of_ble_eq_true rfl, Nat.le_of_ble_eq_true rfl⟩, (show C9 + 2 ≤ 690337 by omega), (show S9 + 12 ≤ 7030456 by omega)⟩) rfl rfl (fun r_2 sc1v_3 H locs hw_4 hP hD hK hS => ?_)
  have hK : va_K D vwCl [(K, .int), (KS, .object "BarcodeWand$State")] s := hK
  have hP : va_P D vwCl ((WW a K KS st hs sc1v_3)) H := hP
  have hD : va_D A ((WW a K KS st hs sc1v_3)) := hD
  have hw_4 : r_2 = 1 := hw_4
  have hw_4 := hw_4.symm
  subst hw_4
  refine k_nrm (y := 1) rfl ?_
  refine lv_if_eq (tgt := 385) hx hb dL_law_378 (by decide) (fun c9 => absurd c9 (by decide)) (fun _ => ?_)
  refine lv_iconst (v := 1) hx hb dL_law_381 (by decide) ?_
  refine lv_goto (tgt := 386) hx hb dL_law_382 (by decide) ?_
  subst hAe
  refine va_forget (fun q hq => hS.2.2 q hq) ?_
  refine W.widen (k := 690337) (n := 7030456) (by omega) (by omega) ?_
  exact lw_ret hx hb hr hlocks dL_law_386
set_option maxHeartbeats 8000000 in
set_option maxRecDepth 100000 in
theorem law_loop {p : Program} {l : Launch} {e : Env} {s : State} {m : MethodId} {below : List Frame} {meth : Method} {c : Code} {b L : Nat} {xs : Nat → Int32} (hst : l.stackTraces = false) (D : va_G) (C0 : lw_At p s m meth c b L xs) (hG : k_G (fun q : Nat => s.heap.size ≤ q) s s.heap) {a : Nat → Nat} {K KS : ClassId} (hK : va_K D vwCl [(K, .int), (KS, .object "BarcodeWand$State")] s) (hLL : L ≤ 260) : ∀ (j k : Nat), k + j = 40 → ∀ (st : ST) (hs : HT) (sc : SCT) (H : Heap) (locs : List Loc) (ls : Array Slot), invS k st → okH hs → va_P D vwCl (WW a K KS st hs sc) H → va_D (fun q : Nat => s.heap.size ≤ q) (WW a K KS st hs sc) → va_S (fun q : Nat => s.heap.size ≤ q) s.heap H locs → lv_has ls 10 [(3, .int (nI k)), (2, .int 1), (1, .ref (a 0)), (0, .ref b)] → W p l e room_1 s m #[Value.ref b] below meth c H locs (122 + 9 * k) (1220 + 54 * k) (lw_Z below #[Value.ref b] s) (F0 m 33 ls []) := by
  intro j
  induction j with
  | zero =>
    intro k hk st hs sc H locs ls h1 h2 h3 h4 h5 h6
    obtain rfl : k = 40 := by omega
    exact law_E hst D C0 hG hK (by omega) (by omega) st hs sc h1 h2 h3 h4 h5 h6
  | succ j ih =>
    intro k hk st hs sc H locs ls h1 h2 h3 h4 h5 h6
    exact law_T hst D C0 hG hK hLL (show k < 40 by omega) (Cn := 122 + 9 * (k + 1)) (Sn := 1220 + 54 * (k + 1)) (by omega) (by omega) (by omega) (by omega) (ih (k + 1) (by omega)) st hs sc h1 h2 h3 h4 h5 h6
