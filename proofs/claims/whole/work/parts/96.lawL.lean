theorem lc_L_8 : Cond.classLink RL 8 "BarcodeWand" ∈ wsA := mA 17 rfl rfl
theorem lt_BarcodeWand : Cond.instantiable "BarcodeWand" 6 ∈ wsA := mA 18 rfl rfl
theorem lk_X7_init : Cond.code yX7_init cX7_init 1 none ∈ wsA := mA 21 rfl rfl
theorem ly_X7_init : k_y yX7_init 0 := ⟨by decide +kernel, by decide +kernel, by decide +kernel⟩
theorem lm_X7_init : Cond.instanceMethod yX7_init ∈ wsA := mA 20 rfl rfl
theorem Li_L_73 : k_LI RL 73 yX7_init cX7_init 1 0 := ⟨mA 19 rfl rfl, lm_X7_init, li_BarcodeWand, lk_X7_init, rfl, ly_X7_init⟩
set_option maxRecDepth 20000 in
theorem lc_L_74 : Cond.classLink RL 74 "BarcodeWandModel" ∈ wsA := mA 781 rfl rfl
set_option maxRecDepth 20000 in
theorem lt_BarcodeWandModel : Cond.instantiable "BarcodeWandModel" 12 ∈ wsA := mA 782 rfl rfl
set_option maxRecDepth 20000 in
theorem lk_X8_init : Cond.code yX8_init cX8_init 1 none ∈ wsA := mA 785 rfl rfl
theorem ly_X8_init : k_y yX8_init 0 := ⟨by decide +kernel, by decide +kernel, by decide +kernel⟩
set_option maxRecDepth 20000 in
theorem lm_X8_init : Cond.instanceMethod yX8_init ∈ wsA := mA 784 rfl rfl
set_option maxRecDepth 20000 in
theorem Li_L_76 : k_LI RL 76 yX8_init cX8_init 1 0 := ⟨mA 783 rfl rfl, lm_X8_init, li_BarcodeWandModel, lk_X8_init, rfl, ly_X8_init⟩
set_option maxRecDepth 20000 in
theorem la_long : Cond.arrayClass .long ∈ wsA := mA 1123 rfl rfl
theorem law_loop {p : Program} {l : Launch} {e : Env} {s : State} {m : MethodId} {below : List Frame} {meth : Method} {c : Code} {b L : Nat} {xs : Nat → Int32} (hst : l.stackTraces = false) (D : va_G) (C0 : lw_At p s m meth c b L xs) (hG : k_G (fun q : Nat => s.heap.size ≤ q) s s.heap) {a : Nat → Nat} {K KS KL KC : ClassId} {mo ms mk mfd mb out : Nat} (hK : va_K D vwCl [(K, .int), (KS, .object "BarcodeWand$State"), (KL, .long), (KC, .char)] s) (hL : L ≤ 2048) : ∀ (j k : Nat), 4 * (k + j) ≤ L → L < 4 * (k + j) + 4 → ∀ (st : ST) (hs : HT) (sc : SCT) (sf lk fd bf cf : Nat → Int32) (ofn : Nat → Int64) (ty : Nat) (th ml mf sp on tw pk pf ps pn pp pm : Int32) (H : Heap) (locs : List Loc) (ls : Array Slot), LAW st hs sf → BUR ty bf cf pm → va_P D vwCl ((mo, .inr (8, [.ref ms, .int (nI (h_kp hs)), .ref mb, .int (nI ty), .int th, .ref mk, .int ml, .ref mfd, .int mf, .int sp, .int on, .int tw])) :: (ms, .inl (K, 889, .inl sf)) :: (mk, .inl (K, 41, .inl lk)) :: (mfd, .inl (K, 9, .inl fd)) :: (mb, .inl (KC, 60, .inl cf)) :: ((a 25), .inr (4, [.ref (a 26), .int (nI ty)])) :: ((a 26), .inl (K, 60, .inl bf)) :: ((a 27), .inr (1, [.int pk, .int pf, .int ps, .int pn, .int pp, .int pm])) :: (out, .inl (KL, 1, .inr (.inl ofn))) :: (WW a K KS st hs sc)) H → va_D (fun q : Nat => s.heap.size ≤ q) ((mo, .inr (8, [.ref ms, .int (nI (h_kp hs)), .ref mb, .int (nI ty), .int th, .ref mk, .int ml, .ref mfd, .int mf, .int sp, .int on, .int tw])) :: (ms, .inl (K, 889, .inl sf)) :: (mk, .inl (K, 41, .inl lk)) :: (mfd, .inl (K, 9, .inl fd)) :: (mb, .inl (KC, 60, .inl cf)) :: ((a 25), .inr (4, [.ref (a 26), .int (nI ty)])) :: ((a 26), .inl (K, 60, .inl bf)) :: ((a 27), .inr (1, [.int pk, .int pf, .int ps, .int pn, .int pp, .int pm])) :: (out, .inl (KL, 1, .inr (.inl ofn))) :: (WW a K KS st hs sc)) → va_S (fun q : Nat => s.heap.size ≤ q) s.heap H locs → lv_has ls 7 [(4, .int (nI (4 * k))), (3, .ref out), (2, .ref mo), (1, .ref (a 0)), (0, .ref b)] → W p l e room_1 s m #[Value.ref b] below meth c H locs (124 + k) (2208 + 6 * k) (lw_Z below #[Value.ref b] s) (F0 m 23 ls []) := by
  intro j
  induction j with
  | zero =>
    intro k hk1 hk2 st hs sc sf lk fd bf cf ofn ty th ml mf sp on tw pk pf ps pn pp pm H locs ls h1 h2 h3 h4 h5 h6
    exact law_E hst D C0 hG hK hL (k := k) (by omega) (by omega) (by omega) (by omega) st hs sc sf lk fd bf cf ofn ty th ml mf sp on tw pk pf ps pn pp pm h1 h2 h3 h4 h5 h6
  | succ j ih =>
    intro k hk1 hk2 st hs sc sf lk fd bf cf ofn ty th ml mf sp on tw pk pf ps pn pp pm H locs ls h1 h2 h3 h4 h5 h6
    exact law_T hst D C0 hG hK hL (k := k) (by omega) (Cn := 124 + (k + 1)) (Sn := 2208 + 6 * (k + 1)) (by omega) (by omega) (by omega) (by omega)
      (fun st hs sc sf lk fd bf cf ofn ty th ml mf sp on tw pk pf ps pn pp pm H locs ls g1 g2 g3 g4 g5 g6 => law_N hst D C0 hG hK hL (k := k) (ih (k + 1) (by omega) (by omega)) st hs sc sf lk fd bf cf ofn ty th ml mf sp on tw pk pf ps pn pp pm g1 g2 g3 g4 g5 g6) st hs sc sf lk fd bf cf ofn ty th ml mf sp on tw pk pf ps pn pp pm h1 h2 h3 h4 h5 h6
