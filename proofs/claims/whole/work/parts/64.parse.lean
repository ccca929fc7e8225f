set_option maxRecDepth 20000 in
theorem lk_X1_restart : Cond.code yX1_restart cX1_restart 1 none ∈ wsA := mA 402 rfl rfl
theorem ly_X1_restart : k_y yX1_restart 0 := ⟨by decide +kernel, by decide +kernel, by decide +kernel⟩
set_option maxRecDepth 20000 in
theorem lm_X1_restart : Cond.instanceMethod yX1_restart ∈ wsA := mA 400 rfl rfl
set_option maxRecDepth 20000 in
theorem le_X1_restart : Cond.selects (yX1_restart).cls yX1_restart yX1_restart ∈ wsA := mA 401 rfl rfl
set_option maxRecDepth 20000 in
theorem Lv_X7_214 : k_LV RX7 214 yX1_restart cX1_restart 1 none 0 := ⟨mA 399 rfl rfl, lm_X1_restart, le_X1_restart, li_BarcodeWand_CommandParser, lk_X1_restart, ly_X1_restart⟩
set_option maxRecDepth 20000 in
theorem lk_X1_accept : Cond.code yX1_accept cX1_accept 2 (some .boolean) ∈ wsA := mA 406 rfl rfl
theorem ly_X1_accept : k_y yX1_accept 1 := ⟨by decide +kernel, by decide +kernel, by decide +kernel⟩
set_option maxRecDepth 20000 in
theorem lm_X1_accept : Cond.instanceMethod yX1_accept ∈ wsA := mA 404 rfl rfl
set_option maxRecDepth 20000 in
theorem le_X1_accept : Cond.selects (yX1_accept).cls yX1_accept yX1_accept ∈ wsA := mA 405 rfl rfl
set_option maxRecDepth 20000 in
theorem Lv_X7_217 : k_LV RX7 217 yX1_accept cX1_accept 2 (some .boolean) 1 := ⟨mA 403 rfl rfl, lm_X1_accept, le_X1_accept, li_BarcodeWand_CommandParser, lk_X1_accept, ly_X1_accept⟩
set_option maxRecDepth 20000 in
theorem lk_X7_parseBuffer : Cond.code yX7_parseBuffer cX7_parseBuffer 2 (some .int) ∈ wsA := mA 398 rfl rfl
theorem ly_X7_parseBuffer : k_y yX7_parseBuffer 0 := ⟨by decide +kernel, by decide +kernel, by decide +kernel⟩
set_option maxRecDepth 20000 in
theorem lm_X7_parseBuffer : Cond.instanceMethod yX7_parseBuffer ∈ wsA := mA 397 rfl rfl
theorem le_X7_parseBuffer : Cond.selects (yX7_parseBuffer).cls yX7_parseBuffer yX7_parseBuffer ∈ wsA := mS 7 rfl rfl
set_option maxRecDepth 20000 in
theorem Lv_X7_206 : k_LV RX7 206 yX7_parseBuffer cX7_parseBuffer 2 (some .int) 0 := ⟨mA 395 rfl rfl, lm_X7_parseBuffer, le_X7_parseBuffer, li_BarcodeWand, lk_X7_parseBuffer, ly_X7_parseBuffer⟩
theorem dX7_parseBuffer_0 : decode cX7_parseBuffer 0 = .ok (.aload_n 0, 1) := by decide +kernel
theorem dX7_parseBuffer_1 : decode cX7_parseBuffer 1 = .ok (.getfield 45, 3) := by decide +kernel
theorem dX7_parseBuffer_4 : decode cX7_parseBuffer 4 = .ok (.invokevirtual 214, 3) := by decide +kernel
theorem dX7_parseBuffer_7 : decode cX7_parseBuffer 7 = .ok (.iconst 0, 1) := by decide +kernel
theorem dX7_parseBuffer_8 : decode cX7_parseBuffer 8 = .ok (.istore_n 1, 1) := by decide +kernel
theorem dX7_parseBuffer_9 : decode cX7_parseBuffer 9 = .ok (.iload_n 1, 1) := by decide +kernel
theorem dX7_parseBuffer_10 : decode cX7_parseBuffer 10 = .ok (.aload_n 0, 1) := by decide +kernel
theorem dX7_parseBuffer_11 : decode cX7_parseBuffer 11 = .ok (.getfield 39, 3) := by decide +kernel
theorem dX7_parseBuffer_14 : decode cX7_parseBuffer 14 = .ok (.invokevirtual 136, 3) := by decide +kernel
theorem dX7_parseBuffer_17 : decode cX7_parseBuffer 17 = .ok (.if_icmp .ge 29, 3) := by decide +kernel
theorem dX7_parseBuffer_20 : decode cX7_parseBuffer 20 = .ok (.aload_n 0, 1) := by decide +kernel
theorem dX7_parseBuffer_21 : decode cX7_parseBuffer 21 = .ok (.getfield 45, 3) := by decide +kernel
theorem dX7_parseBuffer_24 : decode cX7_parseBuffer 24 = .ok (.aload_n 0, 1) := by decide +kernel
theorem dX7_parseBuffer_25 : decode cX7_parseBuffer 25 = .ok (.getfield 39, 3) := by decide +kernel
theorem dX7_parseBuffer_28 : decode cX7_parseBuffer 28 = .ok (.iload_n 1, 1) := by decide +kernel
theorem dX7_parseBuffer_29 : decode cX7_parseBuffer 29 = .ok (.invokevirtual 79, 3) := by decide +kernel
theorem dX7_parseBuffer_32 : decode cX7_parseBuffer 32 = .ok (.invokevirtual 217, 3) := by decide +kernel
theorem dX7_parseBuffer_35 : decode cX7_parseBuffer 35 = .ok (.ifCond .ne 5, 3) := by decide +kernel
theorem dX7_parseBuffer_38 : decode cX7_parseBuffer 38 = .ok (.iload_n 1, 1) := by decide +kernel
theorem dX7_parseBuffer_39 : decode cX7_parseBuffer 39 = .ok (.ireturn, 1) := by decide +kernel
theorem dX7_parseBuffer_40 : decode cX7_parseBuffer 40 = .ok (.iinc 1 1, 3) := by decide +kernel
theorem dX7_parseBuffer_43 : decode cX7_parseBuffer 43 = .ok (.goto (-34), 3) := by decide +kernel
theorem dX7_parseBuffer_46 : decode cX7_parseBuffer 46 = .ok (.aload_n 0, 1) := by decide +kernel
theorem dX7_parseBuffer_47 : decode cX7_parseBuffer 47 = .ok (.getfield 39, 3) := by decide +kernel
theorem dX7_parseBuffer_50 : decode cX7_parseBuffer 50 = .ok (.invokevirtual 136, 3) := by decide +kernel
theorem dX7_parseBuffer_53 : decode cX7_parseBuffer 53 = .ok (.ireturn, 1) := by decide +kernel
theorem dX7_firstError_0 : decode cX7_firstError 0 = .ok (.aload_n 0, 1) := by decide +kernel
theorem dX7_firstError_1 : decode cX7_firstError 1 = .ok (.invokevirtual 206, 3) := by decide +kernel
theorem dX7_firstError_4 : decode cX7_firstError 4 = .ok (.ireturn, 1) := by decide +kernel
theorem or_1 {o : Option PS} {q q1 : PS} {r : Int32} (h : orR o q r q1) (hr : ¬ r = 0) : o = some q1 := by
  rcases h with ⟨-, h⟩ | ⟨h, -⟩
  · exact h
  · exact absurd h hr
theorem or_0 {o : Option PS} {q q1 : PS} {r : Int32} (h : orR o q r q1) (hr : r = 0) : o = none ∧ q1 = q := by
  rcases h with ⟨h, -⟩ | ⟨-, h⟩
  · rw [hr] at h
    exact absurd h (by decide)
  · exact h
theorem acDig_m {k f s n p m d : Int32} {q1 : PS} (h : acDig k f s n p m d = some q1) : q_m q1 = m ∧ q_k q1 = k ∧ q_p q1 = p := by
  unfold acDig at h
  split at h
  · split at h
    · cases h
    · cases h; exact ⟨rfl, rfl, rfl⟩
  · split at h
    · cases h
    · cases h; exact ⟨rfl, rfl, rfl⟩
theorem acMin_m {k f s n p m : Int32} {q1 : PS} (h : acMin k f s n p m = some q1) : q1 = (k, f, s, n, p, 1) ∧ k = 115 ∧ p = 2 ∧ n = 0 ∧ m = 0 := by
  unfold acMin at h
  split at h
  · split at h
    · split at h
      · split at h
        · cases h; exact ⟨rfl, by assumption, by assumption, by assumption, by assumption⟩
        · cases h
      · cases h
    · cases h
  · cases h
theorem acSep_m {k f s n p m c : Int32} {q1 : PS} (h : acSep k f s n p m c = some q1) : ¬ n = 0 ∧ ((endF k n p = 0 ∧ c = sepP k ∧ q1 = (k, f, 0, 0, 2, 0)) ∨ (¬ endF k n p = 0 ∧ c = 59 ∧ q1 = (k, f, s, n, 0, m))) := by
  unfold acSep at h
  split at h
  · cases h
  · rename_i hn
    refine ⟨hn, ?_⟩
    split at h
    · split at h
      · cases h; exact Or.inl ⟨by assumption, by assumption, rfl⟩
      · cases h
    · split at h
      · cases h; exact Or.inr ⟨by assumption, by assumption, rfl⟩
      · cases h
theorem acKind_m {c : Int32} {q1 : PS} (h : acKind c = some q1) : isK c ∧ q1 = (c, 0, 0, 0, 1, 0) := by
  unfold acKind at h
  split at h
  · cases h; exact ⟨by assumption, rfl⟩
  · cases h
/-- the four ways to go on -/
theorem acc_or {k f s n p m c : Int32} {q1 : PS} (h : acc (k, f, s, n, p, m) c = some q1) : (p = 0 ∧ isK c ∧ q1 = (c, 0, 0, 0, 1, 0)) ∨ (¬ p = 0 ∧ ¬ c < 48 ∧ c ≤ 57 ∧ acDig k f s n p m (c - 48) = some q1) ∨ (¬ p = 0 ∧ c = 45 ∧ acMin k f s n p m = some q1) ∨ (¬ p = 0 ∧ (c < 48 ∨ 57 < c) ∧ ¬ c = 45 ∧ acSep k f s n p m c = some q1) := by
  by_cases hp : p = 0
  · rw [acc_k hp] at h
    exact Or.inl ⟨hp, acKind_m h⟩
  · by_cases hd : ¬ c < 48 ∧ c ≤ 57
    · rw [acc_d hp hd.1 hd.2] at h
      exact Or.inr (Or.inl ⟨hp, hd.1, hd.2, h⟩)
    · have hd' : c < 48 ∨ 57 < c := by
        by_cases h1 : c < 48
        · exact Or.inl h1
        · exact Or.inr (fa_of_nle (fun q => hd ⟨h1, q⟩))
      by_cases h45 : c = 45
      · rw [acc_m hp hd' h45] at h
        exact Or.inr (Or.inr (Or.inl ⟨hp, h45, h⟩))
      · rw [acc_s hp hd' h45] at h
        exact Or.inr (Or.inr (Or.inr ⟨hp, hd', h45, h⟩))
theorem acc_01 {k f s n p m c : Int32} {k1 f1 s1 n1 p1 m1 : Int32} (h : acc (k, f, s, n, p, m) c = some (k1, f1, s1, n1, p1, m1)) (hm : m = 0 ∨ m = 1) : m1 = 0 ∨ m1 = 1 := by
  rcases acc_or h with ⟨-, -, e⟩ | ⟨-, -, -, e⟩ | ⟨-, -, e⟩ | ⟨-, -, -, e⟩
  · cases e; exact Or.inl rfl
  · rw [show m1 = m from (acDig_m e).1]; exact hm
  · cases (acMin_m e).1; exact Or.inr rfl
  · rcases (acSep_m e).2 with ⟨-, -, e⟩ | ⟨-, -, e⟩
    · cases e; exact Or.inl rfl
    · cases e; exact hm
theorem pb_end {f : Nat → Int32} {g : PS} {n i : Nat} {k2 f2 s2 n2 p2 m2 k1 f1 s1 n1 p1 m1 : Int32} (h : itA f g i = some (k2, f2, s2, n2, p2, m2)) (hi : i + 1 ≤ n) (ho : acc (k2, f2, s2, n2, p2, m2) (f i) = none ∧ (k1, f1, s1, n1, p1, m1) = (k2, f2, s2, n2, p2, m2)) (hm : m2 = 0 ∨ m2 = 1) : PB f n g (nI i) (k1, f1, s1, n1, p1, m1) ∧ m01 (k1, f1, s1, n1, p1, m1) := by
  rw [ho.2]
  exact ⟨⟨i, rfl, by omega, h, fun _ => ho.1⟩, hm⟩
set_option maxHeartbeats 4000000 in
set_option maxRecDepth 100000 in
theorem c_parseBuffer (l : Launch) (D : va_G) (ty : Nat) (K : ClassId) (bf : Nat → Int32) (pk : Int32) (pf : Int32) (ps : Int32) (pn : Int32) (pp : Int32) (pm : Int32) (a : Nat → Nat) (hty : ty ≤ 60) (hm : pm = 0 ∨ pm = 1) (sz : Nat) : k_Mi (S := Int32 × Int32 × Int32 × Int32 × Int32 × Int32) l D yX7_parseBuffer cX7_parseBuffer 2 (some .int) 4 0 0 86 [.ref (a 0)] [((a 0), .inr (7, [.ref (a 1), .ref (a 16), .ref (a 18), .ref (a 23), .ref (a 25), .ref (a 27)])), ((a 25), .inr (4, [.ref (a 26), .int (nI ty)])), ((a 26), .inl (K, 60, .inl bf)), ((a 27), .inr (1, [.int pk, .int pf, .int ps, .int pn, .int pp, .int pm]))] [(K, .int)] (fun (r : Int32) (u : Int32 × Int32 × Int32 × Int32 × Int32 × Int32) => match u with | (k1, f1, s1, n1, p1, m1) => PB bf ty (pk, pf, ps, pn, 0, pm) r (k1, f1, s1, n1, p1, m1) ∧ m01 (k1, f1, s1, n1, p1, m1)) (fun u => match u with | (k1, f1, s1, n1, p1, m1) => [((a 0), .inr (7, [.ref (a 1), .ref (a 16), .ref (a 18), .ref (a 23), .ref (a 25), .ref (a 27)])), ((a 25), .inr (4, [.ref (a 26), .int (nI ty)])), ((a 26), .inl (K, 60, .inl bf)), ((a 27), .inr (1, [.int k1, .int f1, .int s1, .int n1, .int p1, .int m1]))]) (fun u => match u with | (k1, f1, s1, n1, p1, m1) => []) sz := by
  refine Met.ofW (cc := cX7_parseBuffer) (maxL := 2) (ret := (some .int)) (by decide) rfl ?_
  intro p e s m args below meth c s₁ B hml hv
  obtain ⟨rfl, hsz, hP, hK, hD0, hG⟩ := hv
  have hx := B.exec
  have hb := B.bytes
  have hr := B.returns
  have ht : ∀ v9 ∈ wsA, v9.before ([.ref (a 0)] : List Value).toArray s = true := fun v9 h9 => atoms_spec (ws := k_ws yX7_parseBuffer cX7_parseBuffer 2 (some .int)) B.pre v9 (List.mem_cons_of_mem _ h9)
  have hown : s.vm.findClass RX7 = some m.cls := findClass_of_methodNamed B.named
  have S0 : k_C p s m ([.ref (a 0)] : List Value).toArray c cX7_parseBuffer 2 RX7 := ⟨hx, hb, hml, hown, ht⟩
  have hlocks := B.notSynchronized
  subst hsz
  have hD := hD0.self (sz := s.heap.size)
  generalize hAe : va_A [((a 0), .inr (7, [.ref (a 1), .ref (a 16), .ref (a 18), .ref (a 23), .ref (a 25), .ref (a 27)])), ((a 25), .inr (4, [.ref (a 26), .int (nI ty)])), ((a 26), .inl (K, 60, .inl bf)), ((a 27), .inr (1, [.int pk, .int pf, .int ps, .int pn, .int pp, .int pm]))] s.heap.size = A at hD hG ⊢
  have hA : ∀ q : Nat, s.heap.size ≤ q → A q := fun q h => by rw [← hAe]; exact Or.inr h
  have hS : va_S A s.heap s.heap [] := va_S.rf
  have hl := lv_entry ([.ref (a 0)]) (n := 2) (Nat.le_of_ble_eq_true rfl)
  rw [lg_entry_eq]
  generalize (lg_sl ([.ref (a 0)]) ++ List.replicate (2 - (lg_sl ([.ref (a 0)])).length) Slot.unset).toArray = ls at hl ⊢
  have hl : lv_has ls 2 [(0, .ref (a 0))] := hl
  have hP : va_P D vwCl [((a 0), .inr (7, [.ref (a 1), .ref (a 16), .ref (a 18), .ref (a 23), .ref (a 25), .ref (a 27)])), ((a 25), .inr (4, [.ref (a 26), .int (nI ty)])), ((a 26), .inl (K, 60, .inl bf)), ((a 27), .inr (1, [.int pk, .int pf, .int ps, .int pn, .int pp, .int pm]))] s.heap := hP
  refine lv_aload_n hx hb dX7_parseBuffer_0 rfl (lv_at hl 0 rfl) ?_
  refine va_get (D := D) (ci := 7) (v := .ref (a 27)) (C := RX7) (T := TX7) (N := 6) hx hb ht inA_X7 hown hK hP 0 rfl rfl 5 (by decide) (ht _ lf_X7_45) (fun _ h9 => h9) rfl dX7_parseBuffer_1 ?_
  have ct := k_cut_of (wc := [((a 27), .inr (1, [.int pk, .int pf, .int ps, .int pn, .int pp, .int pm]))]) (wr := [((a 0), .inr (7, [.ref (a 1), .ref (a 16), .ref (a 18), .ref (a 23), .ref (a 25), .ref (a 27)])), ((a 25), .inr (4, [.ref (a 26), .int (nI ty)])), ((a 26), .inl (K, 60, .inl bf))]) (tc := []) hG hS hA hK hP hD [3] [0, 1, 2] [] rfl rfl (by decide) (by decide) (by decide) rfl
  refine k_endv (As := [.ref (a 27)]) ct (k_runV (As := []) (rest := []) S0 Lv_X7_214 rfl (ci := 1) (q0 := 0) rfl rfl ct (c_P_restart l D (a 27) pk pf ps pn pp pm s.heap.size) hl.1 rfl (Nat.le_of_ble_eq_true rfl) rfl dX7_parseBuffer_4 ⟨⟨Nat.le_of_ble_eq_true rfl, Nat.le_of_ble_eq_true rfl⟩, Nat.le_of_ble_eq_true rfl, Nat.le_of_ble_eq_true rfl⟩) rfl rfl (fun _ _ H locs hw_2 hP hD hK hS => ?_)
  have hK : va_K D vwCl [(K, .int)] s := hK
  have hP : va_P D vwCl [((a 0), .inr (7, [.ref (a 1), .ref (a 16), .ref (a 18), .ref (a 23), .ref (a 25), .ref (a 27)])), ((a 25), .inr (4, [.ref (a 26), .int (nI ty)])), ((a 26), .inl (K, 60, .inl bf)), ((a 27), .inr (1, [.int pk, .int pf, .int ps, .int pn, .int 0, .int pm]))] H := hP
  have hD : va_D A [((a 0), .inr (7, [.ref (a 1), .ref (a 16), .ref (a 18), .ref (a 23), .ref (a 25), .ref (a 27)])), ((a 25), .inr (4, [.ref (a 26), .int (nI ty)])), ((a 26), .inl (K, 60, .inl bf)), ((a 27), .inr (1, [.int pk, .int pf, .int ps, .int pn, .int 0, .int pm]))] := hD
  refine lv_iconst (v := 0) hx hb dX7_parseBuffer_7 (by decide) ?_
  refine lv_istore_n (lv' := [(1, .int 0), (0, .ref (a 0))]) hx hb dX7_parseBuffer_8 rfl hl (by decide) rfl (fun ls hl => ?_)
  have hl : lv_has ls 2 [(1, .int (nI 0)), (0, .ref (a 0))] := hl
  refine k_loop (ι := Nat × Int32 × Int32 × Int32 × Int32 × Int32 × Int32) (fun (x9 : Nat × Int32 × Int32 × Int32 × Int32 × Int32 × Int32) H9 locs9 ls9 => match x9 with | (i, k2, f2, s2, n2, p2, m2) => (i ≤ ty) ∧ (itA bf (pk, pf, ps, pn, 0, pm) i = some (k2, f2, s2, n2, p2, m2)) ∧ (m2 = 0 ∨ m2 = 1) ∧ va_P D vwCl [((a 0), .inr (7, [.ref (a 1), .ref (a 16), .ref (a 18), .ref (a 23), .ref (a 25), .ref (a 27)])), ((a 25), .inr (4, [.ref (a 26), .int (nI ty)])), ((a 26), .inl (K, 60, .inl bf)), ((a 27), .inr (1, [.int k2, .int f2, .int s2, .int n2, .int p2, .int m2]))] H9 ∧ va_D A [((a 0), .inr (7, [.ref (a 1), .ref (a 16), .ref (a 18), .ref (a 23), .ref (a 25), .ref (a 27)])), ((a 25), .inr (4, [.ref (a 26), .int (nI ty)])), ((a 26), .inl (K, 60, .inl bf)), ((a 27), .inr (1, [.int k2, .int f2, .int s2, .int n2, .int p2, .int m2]))] ∧ va_S A s.heap H9 locs9 ∧ lv_has ls9 2 [(1, .int (nI i)), (0, .ref (a 0))]) (fun (x9 : Nat × Int32 × Int32 × Int32 × Int32 × Int32 × Int32) => match x9 with | (i, k2, f2, s2, n2, p2, m2) => ty - i) ?_ ((0, pk, pf, ps, pn, 0, pm)) ⟨(Nat.zero_le _), rfl, hm, hP.sub [0, 1, 2, 3] rfl, hD.sub [0, 1, 2, 3] (by decide) rfl, hS, lv_sub hl [0, 1] rfl⟩
  intro x9 H locs ls hF9 ih9
  obtain ⟨i, k2, f2, s2, n2, p2, m2⟩ := x9
  obtain ⟨hi, hit, hm9, hP, hD, hS, hl⟩ := hF9
  try dsimp only at ih9
  have hP : va_P D vwCl [((a 0), .inr (7, [.ref (a 1), .ref (a 16), .ref (a 18), .ref (a 23), .ref (a 25), .ref (a 27)])), ((a 25), .inr (4, [.ref (a 26), .int (nI ty)])), ((a 26), .inl (K, 60, .inl bf)), ((a 27), .inr (1, [.int k2, .int f2, .int s2, .int n2, .int p2, .int m2]))] H := hP
  have hD : va_D A [((a 0), .inr (7, [.ref (a 1), .ref (a 16), .ref (a 18), .ref (a 23), .ref (a 25), .ref (a 27)])), ((a 25), .inr (4, [.ref (a 26), .int (nI ty)])), ((a 26), .inl (K, 60, .inl bf)), ((a 27), .inr (1, [.int k2, .int f2, .int s2, .int n2, .int p2, .int m2]))] := hD
  have hl : lv_has ls 2 [(1, .int (nI i)), (0, .ref (a 0))] := hl
  refine lv_iload_n hx hb dX7_parseBuffer_9 rfl (lv_at hl 0 rfl) ?_
  refine lv_aload_n hx hb dX7_parseBuffer_10 rfl (lv_at hl 1 rfl) ?_
  refine va_get (D := D) (ci := 7) (v := .ref (a 25)) (C := RX7) (T := TX7) (N := 6) hx hb ht inA_X7 hown hK hP 0 rfl rfl 4 (by decide) (ht _ lf_X7_39) (fun _ h9 => h9) rfl dX7_parseBuffer_11 ?_
  have ct := k_cut_of (wc := [((a 25), .inr (4, [.ref (a 26), .int (nI ty)]))]) (wr := [((a 0), .inr (7, [.ref (a 1), .ref (a 16), .ref (a 18), .ref (a 23), .ref (a 25), .ref (a 27)])), ((a 26), .inl (K, 60, .inl bf)), ((a 27), .inr (1, [.int k2, .int f2, .int s2, .int n2, .int p2, .int m2]))]) (tc := []) hG hS hA hK hP hD [1] [0, 2, 3] [] rfl rfl (by decide) (by decide) (by decide) rfl
  refine k_endi (As := [.ref (a 25)]) ct (k_runV (As := []) (rest := [.int (nI i)]) S0 Lv_X7_136 rfl (ci := 4) (q0 := 0) rfl rfl ct (c_Row_size l D (a 25) (a 26) (nI ty) H.size) hl.1 rfl (Nat.le_of_ble_eq_true rfl) rfl dX7_parseBuffer_14 ⟨⟨Nat.le_of_ble_eq_true rfl, Nat.le_of_ble_eq_true rfl⟩, Nat.le_of_ble_eq_true rfl, Nat.le_of_ble_eq_true rfl⟩) rfl rfl (fun r_3 _ H locs hw_4 hP hD hK hS => ?_)
  have hK : va_K D vwCl [(K, .int)] s := hK
  have hP : va_P D vwCl [((a 0), .inr (7, [.ref (a 1), .ref (a 16), .ref (a 18), .ref (a 23), .ref (a 25), .ref (a 27)])), ((a 26), .inl (K, 60, .inl bf)), ((a 27), .inr (1, [.int k2, .int f2, .int s2, .int n2, .int p2, .int m2])), ((a 25), .inr (4, [.ref (a 26), .int (nI ty)]))] H := hP
  have hD : va_D A [((a 0), .inr (7, [.ref (a 1), .ref (a 16), .ref (a 18), .ref (a 23), .ref (a 25), .ref (a 27)])), ((a 26), .inl (K, 60, .inl bf)), ((a 27), .inr (1, [.int k2, .int f2, .int s2, .int n2, .int p2, .int m2])), ((a 25), .inr (4, [.ref (a 26), .int (nI ty)]))] := hD
  have hw_4 : r_3 = (nI ty) := hw_4
  have hw_4 := hw_4.symm
  subst hw_4
  refine k_nrm (y := (nI ty)) rfl ?_
  refine lv_icmp_ge (tgt := 46) hx hb dX7_parseBuffer_17 (by decide) (fun c_5 => ?_) (fun c_5 => ?_)
  · have hc9 := c_5
    obtain rfl : ty = i := by rcases Nat.lt_or_ge i ty with q9 | q9; exact absurd c_5 (nI_ge q9 (by omega)); omega
    refine lv_aload_n hx hb dX7_parseBuffer_46 rfl (lv_at hl 1 rfl) ?_
    refine va_get (D := D) (ci := 7) (v := .ref (a 25)) (C := RX7) (T := TX7) (N := 6) hx hb ht inA_X7 hown hK hP 0 rfl rfl 4 (by decide) (ht _ lf_X7_39) (fun _ h9 => h9) rfl dX7_parseBuffer_47 ?_
    have ct := k_cut_of (wc := [((a 25), .inr (4, [.ref (a 26), .int (nI ty)]))]) (wr := [((a 0), .inr (7, [.ref (a 1), .ref (a 16), .ref (a 18), .ref (a 23), .ref (a 25), .ref (a 27)])), ((a 26), .inl (K, 60, .inl bf)), ((a 27), .inr (1, [.int k2, .int f2, .int s2, .int n2, .int p2, .int m2]))]) (tc := []) hG hS hA hK hP hD [3] [0, 1, 2] [] rfl rfl (by decide) (by decide) (by decide) rfl
    refine k_endi (As := [.ref (a 25)]) ct (k_runV (As := []) (rest := []) S0 Lv_X7_136 rfl (ci := 4) (q0 := 0) rfl rfl ct (c_Row_size l D (a 25) (a 26) (nI ty) H.size) hl.1 rfl (Nat.le_of_ble_eq_true rfl) rfl dX7_parseBuffer_50 ⟨⟨Nat.le_of_ble_eq_true rfl, Nat.le_of_ble_eq_true rfl⟩, Nat.le_of_ble_eq_true rfl, Nat.le_of_ble_eq_true rfl⟩) rfl rfl (fun r_6 _ H locs hw_7 hP hD hK hS => ?_)
    have hK : va_K D vwCl [(K, .int)] s := hK
    have hP : va_P D vwCl [((a 0), .inr (7, [.ref (a 1), .ref (a 16), .ref (a 18), .ref (a 23), .ref (a 25), .ref (a 27)])), ((a 26), .inl (K, 60, .inl bf)), ((a 27), .inr (1, [.int k2, .int f2, .int s2, .int n2, .int p2, .int m2])), ((a 25), .inr (4, [.ref (a 26), .int (nI ty)]))] H := hP
    have hD : va_D A [((a 0), .inr (7, [.ref (a 1), .ref (a 16), .ref (a 18), .ref (a 23), .ref (a 25), .ref (a 27)])), ((a 26), .inl (K, 60, .inl bf)), ((a 27), .inr (1, [.int k2, .int f2, .int s2, .int n2, .int p2, .int m2])), ((a 25), .inr (4, [.ref (a 26), .int (nI ty)]))] := hD
    have hw_7 : r_6 = (nI ty) := hw_7
    have hw_7 := hw_7.symm
    subst hw_7
    refine k_nrm (y := (nI ty)) rfl ?_
    have hP9 : va_P D vwCl [((a 0), .inr (7, [.ref (a 1), .ref (a 16), .ref (a 18), .ref (a 23), .ref (a 25), .ref (a 27)])), ((a 25), .inr (4, [.ref (a 26), .int (nI ty)])), ((a 26), .inl (K, 60, .inl bf)), ((a 27), .inr (1, [.int k2, .int f2, .int s2, .int n2, .int p2, .int m2]))] H := hP.sub [0, 3, 1, 2] rfl
    have hD9 : va_D A [((a 0), .inr (7, [.ref (a 1), .ref (a 16), .ref (a 18), .ref (a 23), .ref (a 25), .ref (a 27)])), ((a 25), .inr (4, [.ref (a 26), .int (nI ty)])), ((a 26), .inl (K, 60, .inl bf)), ((a 27), .inr (1, [.int k2, .int f2, .int s2, .int n2, .int p2, .int m2]))] := hD.sub [0, 3, 1, 2] (by decide) rfl
    have hK9 : va_K D vwCl [] s := hK.sub [] rfl
    exact W.iret (v := (nI ty)) hx hb hr (fun t ht9 hW9 => ⟨⟨(nI ty), (k2, f2, s2, n2, p2, m2), rfl, by (exact ⟨⟨ty, rfl, Nat.le_refl _, hit, fun q9 => absurd q9 (Nat.lt_irrefl _)⟩, hm9⟩), ⟨by rw [ht9]; exact hP9, va_K.moved hW9.alike hK9, hD9⟩⟩, hS.F ht9⟩) hS.2.2 dX7_parseBuffer_53
  · have hc9 := c_5
    have hik : i + 1 ≤ ty := by rcases Nat.lt_or_ge i ty with q9 | q9; exact q9; exact absurd (nI_le q9 (by omega)) c_5
    refine lv_aload_n hx hb dX7_parseBuffer_20 rfl (lv_at hl 1 rfl) ?_
    refine va_get (D := D) (ci := 7) (v := .ref (a 27)) (C := RX7) (T := TX7) (N := 6) hx hb ht inA_X7 hown hK hP 0 rfl rfl 5 (by decide) (ht _ lf_X7_45) (fun _ h9 => h9) rfl dX7_parseBuffer_21 ?_
    refine lv_aload_n hx hb dX7_parseBuffer_24 rfl (lv_at hl 1 rfl) ?_
    refine va_get (D := D) (ci := 7) (v := .ref (a 25)) (C := RX7) (T := TX7) (N := 6) hx hb ht inA_X7 hown hK hP 0 rfl rfl 4 (by decide) (ht _ lf_X7_39) (fun _ h9 => h9) rfl dX7_parseBuffer_25 ?_
    refine lv_iload_n hx hb dX7_parseBuffer_28 rfl (lv_at hl 0 rfl) ?_
    have ct := k_cut_of (wc := [((a 25), .inr (4, [.ref (a 26), .int (nI ty)])), ((a 26), .inl (K, 60, .inl bf))]) (wr := [((a 0), .inr (7, [.ref (a 1), .ref (a 16), .ref (a 18), .ref (a 23), .ref (a 25), .ref (a 27)])), ((a 27), .inr (1, [.int k2, .int f2, .int s2, .int n2, .int p2, .int m2]))]) (tc := [(K, .int)]) hG hS hA hK hP hD [3, 1] [0, 2] [0] rfl rfl (by decide) (by decide) (by decide) rfl
    refine k_endi (As := [.ref (a 25), .int (nI i)]) ct (k_runV (As := [.int (nI i)]) (rest := [.ref (a 27)]) S0 Lv_X7_79 rfl (ci := 4) (q0 := 0) rfl rfl ct (c_Row_at l D (a 25) (a 26) (nI ty) K 60 bf (nI i) (by first | assumption | decide) H.size) hl.1 rfl (Nat.le_of_ble_eq_true rfl) rfl dX7_parseBuffer_29 ⟨⟨Nat.le_of_ble_eq_true rfl, Nat.le_of_ble_eq_true rfl⟩, Nat.le_of_ble_eq_true rfl, Nat.le_of_ble_eq_true rfl⟩) rfl rfl (fun r_8 _ H locs hw_9 hP hD hK hS => ?_)
    have hK : va_K D vwCl [(K, .int)] s := hK
    have hP : va_P D vwCl [((a 0), .inr (7, [.ref (a 1), .ref (a 16), .ref (a 18), .ref (a 23), .ref (a 25), .ref (a 27)])), ((a 27), .inr (1, [.int k2, .int f2, .int s2, .int n2, .int p2, .int m2])), ((a 25), .inr (4, [.ref (a 26), .int (nI ty)])), ((a 26), .inl (K, 60, .inl bf))] H := hP
    have hD : va_D A [((a 0), .inr (7, [.ref (a 1), .ref (a 16), .ref (a 18), .ref (a 23), .ref (a 25), .ref (a 27)])), ((a 27), .inr (1, [.int k2, .int f2, .int s2, .int n2, .int p2, .int m2])), ((a 25), .inr (4, [.ref (a 26), .int (nI ty)])), ((a 26), .inl (K, 60, .inl bf))] := hD
    have hw_9 : r_8 = (rowAt 60 (nI ty) bf (nI i)) := hw_9
    have hw_9 := hw_9.symm
    subst hw_9
    refine k_nrm (y := (rowAt 60 (nI ty) bf (nI i))) rfl ?_
    refine k_nrm (y := bf i) (rowAt_lt (by omega) hty (by decide)) ?_
    have ct := k_cut_of (wc := [((a 27), .inr (1, [.int k2, .int f2, .int s2, .int n2, .int p2, .int m2]))]) (wr := [((a 0), .inr (7, [.ref (a 1), .ref (a 16), .ref (a 18), .ref (a 23), .ref (a 25), .ref (a 27)])), ((a 25), .inr (4, [.ref (a 26), .int (nI ty)])), ((a 26), .inl (K, 60, .inl bf))]) (tc := []) hG hS hA hK hP hD [1] [0, 2, 3] [] rfl rfl (by decide) (by decide) (by decide) rfl
    refine k_endi (As := [.ref (a 27), .int (bf i)]) ct (k_runV (As := [.int (bf i)]) (rest := []) S0 Lv_X7_217 rfl (ci := 1) (q0 := 0) rfl rfl ct (c_P_accept l D (a 27) k2 f2 s2 n2 p2 m2 (bf i) hm9 H.size) hl.1 rfl (Nat.le_of_ble_eq_true rfl) rfl dX7_parseBuffer_32 ⟨⟨Nat.le_of_ble_eq_true rfl, Nat.le_of_ble_eq_true rfl⟩, Nat.le_of_ble_eq_true rfl, Nat.le_of_ble_eq_true rfl⟩) rfl rfl (fun r_10 u H locs hw_17 hP hD hK hS => ?_)
    obtain ⟨k1v_11, f1v_12, s1v_13, n1v_14, p1v_15, m1v_16⟩ := u
    have hK : va_K D vwCl [(K, .int)] s := hK
    have hP : va_P D vwCl [((a 0), .inr (7, [.ref (a 1), .ref (a 16), .ref (a 18), .ref (a 23), .ref (a 25), .ref (a 27)])), ((a 25), .inr (4, [.ref (a 26), .int (nI ty)])), ((a 26), .inl (K, 60, .inl bf)), ((a 27), .inr (1, [.int k1v_11, .int f1v_12, .int s1v_13, .int n1v_14, .int p1v_15, .int m1v_16]))] H := hP
    have hD : va_D A [((a 0), .inr (7, [.ref (a 1), .ref (a 16), .ref (a 18), .ref (a 23), .ref (a 25), .ref (a 27)])), ((a 25), .inr (4, [.ref (a 26), .int (nI ty)])), ((a 26), .inl (K, 60, .inl bf)), ((a 27), .inr (1, [.int k1v_11, .int f1v_12, .int s1v_13, .int n1v_14, .int p1v_15, .int m1v_16]))] := hD
    have hw_17 : orR (acc (k2, f2, s2, n2, p2, m2) (bf i)) (k2, f2, s2, n2, p2, m2) r_10 (k1v_11, f1v_12, s1v_13, n1v_14, p1v_15, m1v_16) := hw_17
    refine lv_if_ne (tgt := 40) hx hb dX7_parseBuffer_35 (by decide) (fun c_18 => ?_) (fun c_18 => ?_)
    · have hc9 := c_18
      obtain ⟨x_19, ex_19⟩ : ∃ z : Int32, z = (nI i) + 1 := ⟨_, rfl⟩
      refine lv_iinc (v := x_19) (lv' := [(1, .int x_19), (0, .ref (a 0))]) hx hb dX7_parseBuffer_40 hl (k := 0) rfl (by rw [ex_19]; rfl) (by decide) rfl (fun ls hl => ?_)
      refine lv_goto (tgt := 9) hx hb dX7_parseBuffer_43 (by decide) ?_
      have he9 : x_19 = (nI (i + 1)) := by rw [ex_19]; exact nI_1 i
      rw [he9] at hl
      have hl : lv_has ls 2 [(1, .int (nI (i + 1))), (0, .ref (a 0))] := hl
      exact ih9 ((i + 1, k1v_11, f1v_12, s1v_13, n1v_14, p1v_15, m1v_16)) H locs ls (by omega) ⟨hik, (itA_s hit (or_1 hw_17 c_18)), (acc_01 (or_1 hw_17 c_18) hm9), hP.sub [0, 1, 2, 3] rfl, hD.sub [0, 1, 2, 3] (by decide) rfl, hS, lv_sub hl [0, 1] rfl⟩
    · have hc9 := c_18
      refine lv_iload_n hx hb dX7_parseBuffer_38 rfl (lv_at hl 0 rfl) ?_
      have hP9 : va_P D vwCl [((a 0), .inr (7, [.ref (a 1), .ref (a 16), .ref (a 18), .ref (a 23), .ref (a 25), .ref (a 27)])), ((a 25), .inr (4, [.ref (a 26), .int (nI ty)])), ((a 26), .inl (K, 60, .inl bf)), ((a 27), .inr (1, [.int k1v_11, .int f1v_12, .int s1v_13, .int n1v_14, .int p1v_15, .int m1v_16]))] H := hP.sub [0, 1, 2, 3] rfl
      have hD9 : va_D A [((a 0), .inr (7, [.ref (a 1), .ref (a 16), .ref (a 18), .ref (a 23), .ref (a 25), .ref (a 27)])), ((a 25), .inr (4, [.ref (a 26), .int (nI ty)])), ((a 26), .inl (K, 60, .inl bf)), ((a 27), .inr (1, [.int k1v_11, .int f1v_12, .int s1v_13, .int n1v_14, .int p1v_15, .int m1v_16]))] := hD.sub [0, 1, 2, 3] (by decide) rfl
      have hK9 : va_K D vwCl [] s := hK.sub [] rfl
      exact W.iret (v := (nI i)) hx hb hr (fun t ht9 hW9 => ⟨⟨(nI i), (k1v_11, f1v_12, s1v_13, n1v_14, p1v_15, m1v_16), rfl, by (exact pb_end hit hik (or_0 hw_17 c_18) hm9), ⟨by rw [ht9]; exact hP9, va_K.moved hW9.alike hK9, hD9⟩⟩, hS.F ht9⟩) hS.2.2 dX7_parseBuffer_39
set_option maxHeartbeats 4000000 in
set_option maxRecDepth 100000 in
theorem c_B_firstError (l : Launch) (D : va_G) (a : Nat → Nat) (K : ClassId) (KS : ClassId) (st : ST) (hs : HT) (sc : SCT) (ty : Nat) (bf : Nat → Int32) (pk : Int32) (pf : Int32) (ps : Int32) (pn : Int32) (pp : Int32) (pm : Int32) (hty : ty ≤ 60) (hm : pm = 0 ∨ pm = 1) (sz : Nat) : k_Mi (S := Int32 × Int32 × Int32 × Int32 × Int32 × Int32) l D yX7_firstError cX7_firstError 1 (some .int) 5 0 0 107 [.ref (a 0)] (((a 25), .inr (4, [.ref (a 26), .int (nI ty)])) :: ((a 26), .inl (K, 60, .inl bf)) :: ((a 27), .inr (1, [.int pk, .int pf, .int ps, .int pn, .int pp, .int pm])) :: (WW a K KS st hs sc)) [(K, .int), (KS, .object "BarcodeWand$State")] (fun (r : Int32) (u : Int32 × Int32 × Int32 × Int32 × Int32 × Int32) => match u with | (k1, f1, s1, n1, p1, m1) => FE bf ty r ∧ m01 (k1, f1, s1, n1, p1, m1)) (fun u => match u with | (k1, f1, s1, n1, p1, m1) => (((a 25), .inr (4, [.ref (a 26), .int (nI ty)])) :: ((a 26), .inl (K, 60, .inl bf)) :: ((a 27), .inr (1, [.int k1, .int f1, .int s1, .int n1, .int p1, .int m1])) :: (WW a K KS st hs sc))) (fun u => match u with | (k1, f1, s1, n1, p1, m1) => []) sz := by
  obtain ⟨nd, df, ns, zf, tn, tf, k, f, g, cn, tol, suc, fai⟩ := st
  obtain ⟨nx, kp, rg⟩ := hs
  obtain ⟨r1, r2, r3, r4, r5, r6, rn, rdf, rln, rlf, fon, fof⟩ := sc
  refine Met.ofW (cc := cX7_firstError) (maxL := 1) (ret := (some .int)) (by decide) rfl ?_
  intro p e s m args below meth c s₁ B hml hv
  obtain ⟨rfl, hsz, hP, hK, hD0, hG⟩ := hv
  have hx := B.exec
  have hb := B.bytes
  have hr := B.returns
  have ht : ∀ v9 ∈ wsA, v9.before ([.ref (a 0)] : List Value).toArray s = true := fun v9 h9 => atoms_spec (ws := k_ws yX7_firstError cX7_firstError 1 (some .int)) B.pre v9 (List.mem_cons_of_mem _ h9)
  have hown : s.vm.findClass RX7 = some m.cls := findClass_of_methodNamed B.named
  have S0 : k_C p s m ([.ref (a 0)] : List Value).toArray c cX7_firstError 1 RX7 := ⟨hx, hb, hml, hown, ht⟩
  have hlocks := B.notSynchronized
  subst hsz
  have hD := hD0.self (sz := s.heap.size)
  generalize hAe : va_A (((a 25), .inr (4, [.ref (a 26), .int (nI ty)])) :: ((a 26), .inl (K, 60, .inl bf)) :: ((a 27), .inr (1, [.int pk, .int pf, .int ps, .int pn, .int pp, .int pm])) :: (WW a K KS (nd, df, ns, zf, tn, tf, k, f, g, cn, tol, suc, fai) (nx, kp, rg) (r1, r2, r3, r4, r5, r6, rn, rdf, rln, rlf, fon, fof))) s.heap.size = A at hD hG ⊢
  have hA : ∀ q : Nat, s.heap.size ≤ q → A q := fun q h => by rw [← hAe]; exact Or.inr h
  have hS : va_S A s.heap s.heap [] := va_S.rf
  have hl := lv_entry ([.ref (a 0)]) (n := 1) (Nat.le_of_ble_eq_true rfl)
  rw [lg_entry_eq]
  generalize (lg_sl ([.ref (a 0)]) ++ List.replicate (1 - (lg_sl ([.ref (a 0)])).length) Slot.unset).toArray = ls at hl ⊢
  have hl : lv_has ls 1 [(0, .ref (a 0))] := hl
  have hP : va_P D vwCl (((a 25), .inr (4, [.ref (a 26), .int (nI ty)])) :: ((a 26), .inl (K, 60, .inl bf)) :: ((a 27), .inr (1, [.int pk, .int pf, .int ps, .int pn, .int pp, .int pm])) :: ((a 0), .inr (7, [.ref (a 1), .ref (a 16), .ref (a 18), .ref (a 23), .ref (a 25), .ref (a 27)])) :: ((a 1), .inr (6, [.ref (a 2), .ref (a 7), .ref (a 9), .int tol, .int suc, .int fai])) :: ((a 2), .inr (2, [.ref (a 3), .ref (a 5)])) :: ((a 3), .inr (4, [.ref (a 4), .int (nI nd)])) :: ((a 4), .inl (K, 9, .inl df)) :: ((a 5), .inr (4, [.ref (a 6), .int (nI ns)])) :: ((a 6), .inl (K, 41, .inl zf)) :: ((a 7), .inr (4, [.ref (a 8), .int (nI tn)])) :: ((a 8), .inl (K, 41, .inl tf)) :: ((a 9), .inr (0, [.ref (a 10), .ref (a 12), .ref (a 14)])) :: ((a 10), .inr (4, [.ref (a 11), .int (nI k)])) :: ((a 11), .inl (K, 10, .inl f)) :: ((a 12), .inr (4, [.ref (a 13), .int (nI k)])) :: ((a 13), .inl (K, 10, .inl g)) :: ((a 14), .inr (4, [.ref (a 15), .int (nI k)])) :: ((a 15), .inl (K, 10, .inl cn)) :: ((a 16), .inr (5, [.ref (a 17), .int (nI nx), .int (nI kp)])) :: ((a 17), .inl (KS, 6, .inr (.inr (.inr (.inr (ringF a)))))) :: ((a 18), .inr (3, [.ref (a 19), .int r1, .ref (a 21), .int r2, .int r3, .int r4, .int r5, .int r6])) :: ((a 19), .inr (4, [.ref (a 20), .int (nI rn)])) :: ((a 20), .inl (K, 9, .inl rdf)) :: ((a 21), .inr (4, [.ref (a 22), .int (nI rln)])) :: ((a 22), .inl (K, 41, .inl rlf)) :: ((a 23), .inr (4, [.ref (a 24), .int (nI fon)])) :: ((a 24), .inl (K, 41, .inl fof)) :: (HIST a K rg)) s.heap := hP
  have hD : va_D A (((a 25), .inr (4, [.ref (a 26), .int (nI ty)])) :: ((a 26), .inl (K, 60, .inl bf)) :: ((a 27), .inr (1, [.int pk, .int pf, .int ps, .int pn, .int pp, .int pm])) :: ((a 0), .inr (7, [.ref (a 1), .ref (a 16), .ref (a 18), .ref (a 23), .ref (a 25), .ref (a 27)])) :: ((a 1), .inr (6, [.ref (a 2), .ref (a 7), .ref (a 9), .int tol, .int suc, .int fai])) :: ((a 2), .inr (2, [.ref (a 3), .ref (a 5)])) :: ((a 3), .inr (4, [.ref (a 4), .int (nI nd)])) :: ((a 4), .inl (K, 9, .inl df)) :: ((a 5), .inr (4, [.ref (a 6), .int (nI ns)])) :: ((a 6), .inl (K, 41, .inl zf)) :: ((a 7), .inr (4, [.ref (a 8), .int (nI tn)])) :: ((a 8), .inl (K, 41, .inl tf)) :: ((a 9), .inr (0, [.ref (a 10), .ref (a 12), .ref (a 14)])) :: ((a 10), .inr (4, [.ref (a 11), .int (nI k)])) :: ((a 11), .inl (K, 10, .inl f)) :: ((a 12), .inr (4, [.ref (a 13), .int (nI k)])) :: ((a 13), .inl (K, 10, .inl g)) :: ((a 14), .inr (4, [.ref (a 15), .int (nI k)])) :: ((a 15), .inl (K, 10, .inl cn)) :: ((a 16), .inr (5, [.ref (a 17), .int (nI nx), .int (nI kp)])) :: ((a 17), .inl (KS, 6, .inr (.inr (.inr (.inr (ringF a)))))) :: ((a 18), .inr (3, [.ref (a 19), .int r1, .ref (a 21), .int r2, .int r3, .int r4, .int r5, .int r6])) :: ((a 19), .inr (4, [.ref (a 20), .int (nI rn)])) :: ((a 20), .inl (K, 9, .inl rdf)) :: ((a 21), .inr (4, [.ref (a 22), .int (nI rln)])) :: ((a 22), .inl (K, 41, .inl rlf)) :: ((a 23), .inr (4, [.ref (a 24), .int (nI fon)])) :: ((a 24), .inl (K, 41, .inl fof)) :: (HIST a K rg)) := hD
  refine lv_aload_n hx hb dX7_firstError_0 rfl (lv_at hl 0 rfl) ?_
  have ct := k_cut_T (wp := [((a 25), .inr (4, [.ref (a 26), .int (nI ty)])), ((a 26), .inl (K, 60, .inl bf)), ((a 27), .inr (1, [.int pk, .int pf, .int ps, .int pn, .int pp, .int pm])), ((a 0), .inr (7, [.ref (a 1), .ref (a 16), .ref (a 18), .ref (a 23), .ref (a 25), .ref (a 27)])), ((a 1), .inr (6, [.ref (a 2), .ref (a 7), .ref (a 9), .int tol, .int suc, .int fai])), ((a 2), .inr (2, [.ref (a 3), .ref (a 5)])), ((a 3), .inr (4, [.ref (a 4), .int (nI nd)])), ((a 4), .inl (K, 9, .inl df)), ((a 5), .inr (4, [.ref (a 6), .int (nI ns)])), ((a 6), .inl (K, 41, .inl zf)), ((a 7), .inr (4, [.ref (a 8), .int (nI tn)])), ((a 8), .inl (K, 41, .inl tf)), ((a 9), .inr (0, [.ref (a 10), .ref (a 12), .ref (a 14)])), ((a 10), .inr (4, [.ref (a 11), .int (nI k)])), ((a 11), .inl (K, 10, .inl f)), ((a 12), .inr (4, [.ref (a 13), .int (nI k)])), ((a 13), .inl (K, 10, .inl g)), ((a 14), .inr (4, [.ref (a 15), .int (nI k)])), ((a 15), .inl (K, 10, .inl cn)), ((a 16), .inr (5, [.ref (a 17), .int (nI nx), .int (nI kp)])), ((a 17), .inl (KS, 6, .inr (.inr (.inr (.inr (ringF a)))))), ((a 18), .inr (3, [.ref (a 19), .int r1, .ref (a 21), .int r2, .int r3, .int r4, .int r5, .int r6])), ((a 19), .inr (4, [.ref (a 20), .int (nI rn)])), ((a 20), .inl (K, 9, .inl rdf)), ((a 21), .inr (4, [.ref (a 22), .int (nI rln)])), ((a 22), .inl (K, 41, .inl rlf)), ((a 23), .inr (4, [.ref (a 24), .int (nI fon)])), ((a 24), .inl (K, 41, .inl fof))]) (T := (HIST a K rg)) (wc := [((a 0), .inr (7, [.ref (a 1), .ref (a 16), .ref (a 18), .ref (a 23), .ref (a 25), .ref (a 27)])), ((a 25), .inr (4, [.ref (a 26), .int (nI ty)])), ((a 26), .inl (K, 60, .inl bf)), ((a 27), .inr (1, [.int pk, .int pf, .int ps, .int pn, .int pp, .int pm]))]) (wr := [((a 1), .inr (6, [.ref (a 2), .ref (a 7), .ref (a 9), .int tol, .int suc, .int fai])), ((a 2), .inr (2, [.ref (a 3), .ref (a 5)])), ((a 3), .inr (4, [.ref (a 4), .int (nI nd)])), ((a 4), .inl (K, 9, .inl df)), ((a 5), .inr (4, [.ref (a 6), .int (nI ns)])), ((a 6), .inl (K, 41, .inl zf)), ((a 7), .inr (4, [.ref (a 8), .int (nI tn)])), ((a 8), .inl (K, 41, .inl tf)), ((a 9), .inr (0, [.ref (a 10), .ref (a 12), .ref (a 14)])), ((a 10), .inr (4, [.ref (a 11), .int (nI k)])), ((a 11), .inl (K, 10, .inl f)), ((a 12), .inr (4, [.ref (a 13), .int (nI k)])), ((a 13), .inl (K, 10, .inl g)), ((a 14), .inr (4, [.ref (a 15), .int (nI k)])), ((a 15), .inl (K, 10, .inl cn)), ((a 16), .inr (5, [.ref (a 17), .int (nI nx), .int (nI kp)])), ((a 17), .inl (KS, 6, .inr (.inr (.inr (.inr (ringF a)))))), ((a 18), .inr (3, [.ref (a 19), .int r1, .ref (a 21), .int r2, .int r3, .int r4, .int r5, .int r6])), ((a 19), .inr (4, [.ref (a 20), .int (nI rn)])), ((a 20), .inl (K, 9, .inl rdf)), ((a 21), .inr (4, [.ref (a 22), .int (nI rln)])), ((a 22), .inl (K, 41, .inl rlf)), ((a 23), .inr (4, [.ref (a 24), .int (nI fon)])), ((a 24), .inl (K, 41, .inl fof))]) (tc := [(K, .int)]) hG hS hA hK hP hD [3, 0, 1, 2] [4, 5, 6, 7, 8, 9, 10, 11, 12, 13, 14, 15, 16, 17, 18, 19, 20, 21, 22, 23, 24, 25, 26, 27] [0] rfl rfl (by decide) (by decide) (by decide) rfl
  refine k_endi (As := [.ref (a 0)]) ct (k_runV (As := []) (rest := []) S0 Lv_X7_206 rfl (ci := 7) (q0 := 0) rfl rfl ct (c_parseBuffer l D ty K bf pk pf ps pn pp pm a (by first | assumption | omega) (by assumption) s.heap.size) hl.1 rfl (Nat.le_of_ble_eq_true rfl) rfl dX7_firstError_1 ⟨⟨Nat.le_of_ble_eq_true rfl, Nat.le_of_ble_eq_true rfl⟩, Nat.le_of_ble_eq_true rfl, Nat.le_of_ble_eq_true rfl⟩) rfl rfl (fun r_1 u H locs hw_8 hP hD hK hS => ?_)
  obtain ⟨k1v_2, f1v_3, s1v_4, n1v_5, p1v_6, m1v_7⟩ := u
  have hP : va_P D vwCl (((a 1), .inr (6, [.ref (a 2), .ref (a 7), .ref (a 9), .int tol, .int suc, .int fai])) :: ((a 2), .inr (2, [.ref (a 3), .ref (a 5)])) :: ((a 3), .inr (4, [.ref (a 4), .int (nI nd)])) :: ((a 4), .inl (K, 9, .inl df)) :: ((a 5), .inr (4, [.ref (a 6), .int (nI ns)])) :: ((a 6), .inl (K, 41, .inl zf)) :: ((a 7), .inr (4, [.ref (a 8), .int (nI tn)])) :: ((a 8), .inl (K, 41, .inl tf)) :: ((a 9), .inr (0, [.ref (a 10), .ref (a 12), .ref (a 14)])) :: ((a 10), .inr (4, [.ref (a 11), .int (nI k)])) :: ((a 11), .inl (K, 10, .inl f)) :: ((a 12), .inr (4, [.ref (a 13), .int (nI k)])) :: ((a 13), .inl (K, 10, .inl g)) :: ((a 14), .inr (4, [.ref (a 15), .int (nI k)])) :: ((a 15), .inl (K, 10, .inl cn)) :: ((a 16), .inr (5, [.ref (a 17), .int (nI nx), .int (nI kp)])) :: ((a 17), .inl (KS, 6, .inr (.inr (.inr (.inr (ringF a)))))) :: ((a 18), .inr (3, [.ref (a 19), .int r1, .ref (a 21), .int r2, .int r3, .int r4, .int r5, .int r6])) :: ((a 19), .inr (4, [.ref (a 20), .int (nI rn)])) :: ((a 20), .inl (K, 9, .inl rdf)) :: ((a 21), .inr (4, [.ref (a 22), .int (nI rln)])) :: ((a 22), .inl (K, 41, .inl rlf)) :: ((a 23), .inr (4, [.ref (a 24), .int (nI fon)])) :: ((a 24), .inl (K, 41, .inl fof)) :: ((a 0), .inr (7, [.ref (a 1), .ref (a 16), .ref (a 18), .ref (a 23), .ref (a 25), .ref (a 27)])) :: ((a 25), .inr (4, [.ref (a 26), .int (nI ty)])) :: ((a 26), .inl (K, 60, .inl bf)) :: ((a 27), .inr (1, [.int k1v_2, .int f1v_3, .int s1v_4, .int n1v_5, .int p1v_6, .int m1v_7])) :: (HIST a K rg)) H := k_swapP (a := [((a 1), .inr (6, [.ref (a 2), .ref (a 7), .ref (a 9), .int tol, .int suc, .int fai])), ((a 2), .inr (2, [.ref (a 3), .ref (a 5)])), ((a 3), .inr (4, [.ref (a 4), .int (nI nd)])), ((a 4), .inl (K, 9, .inl df)), ((a 5), .inr (4, [.ref (a 6), .int (nI ns)])), ((a 6), .inl (K, 41, .inl zf)), ((a 7), .inr (4, [.ref (a 8), .int (nI tn)])), ((a 8), .inl (K, 41, .inl tf)), ((a 9), .inr (0, [.ref (a 10), .ref (a 12), .ref (a 14)])), ((a 10), .inr (4, [.ref (a 11), .int (nI k)])), ((a 11), .inl (K, 10, .inl f)), ((a 12), .inr (4, [.ref (a 13), .int (nI k)])), ((a 13), .inl (K, 10, .inl g)), ((a 14), .inr (4, [.ref (a 15), .int (nI k)])), ((a 15), .inl (K, 10, .inl cn)), ((a 16), .inr (5, [.ref (a 17), .int (nI nx), .int (nI kp)])), ((a 17), .inl (KS, 6, .inr (.inr (.inr (.inr (ringF a)))))), ((a 18), .inr (3, [.ref (a 19), .int r1, .ref (a 21), .int r2, .int r3, .int r4, .int r5, .int r6])), ((a 19), .inr (4, [.ref (a 20), .int (nI rn)])), ((a 20), .inl (K, 9, .inl rdf)), ((a 21), .inr (4, [.ref (a 22), .int (nI rln)])), ((a 22), .inl (K, 41, .inl rlf)), ((a 23), .inr (4, [.ref (a 24), .int (nI fon)])), ((a 24), .inl (K, 41, .inl fof))]) (b := (HIST a K rg)) (c := [((a 0), .inr (7, [.ref (a 1), .ref (a 16), .ref (a 18), .ref (a 23), .ref (a 25), .ref (a 27)])), ((a 25), .inr (4, [.ref (a 26), .int (nI ty)])), ((a 26), .inl (K, 60, .inl bf)), ((a 27), .inr (1, [.int k1v_2, .int f1v_3, .int s1v_4, .int n1v_5, .int p1v_6, .int m1v_7]))]) hP
  have hD : va_D A (((a 1), .inr (6, [.ref (a 2), .ref (a 7), .ref (a 9), .int tol, .int suc, .int fai])) :: ((a 2), .inr (2, [.ref (a 3), .ref (a 5)])) :: ((a 3), .inr (4, [.ref (a 4), .int (nI nd)])) :: ((a 4), .inl (K, 9, .inl df)) :: ((a 5), .inr (4, [.ref (a 6), .int (nI ns)])) :: ((a 6), .inl (K, 41, .inl zf)) :: ((a 7), .inr (4, [.ref (a 8), .int (nI tn)])) :: ((a 8), .inl (K, 41, .inl tf)) :: ((a 9), .inr (0, [.ref (a 10), .ref (a 12), .ref (a 14)])) :: ((a 10), .inr (4, [.ref (a 11), .int (nI k)])) :: ((a 11), .inl (K, 10, .inl f)) :: ((a 12), .inr (4, [.ref (a 13), .int (nI k)])) :: ((a 13), .inl (K, 10, .inl g)) :: ((a 14), .inr (4, [.ref (a 15), .int (nI k)])) :: ((a 15), .inl (K, 10, .inl cn)) :: ((a 16), .inr (5, [.ref (a 17), .int (nI nx), .int (nI kp)])) :: ((a 17), .inl (KS, 6, .inr (.inr (.inr (.inr (ringF a)))))) :: ((a 18), .inr (3, [.ref (a 19), .int r1, .ref (a 21), .int r2, .int r3, .int r4, .int r5, .int r6])) :: ((a 19), .inr (4, [.ref (a 20), .int (nI rn)])) :: ((a 20), .inl (K, 9, .inl rdf)) :: ((a 21), .inr (4, [.ref (a 22), .int (nI rln)])) :: ((a 22), .inl (K, 41, .inl rlf)) :: ((a 23), .inr (4, [.ref (a 24), .int (nI fon)])) :: ((a 24), .inl (K, 41, .inl fof)) :: ((a 0), .inr (7, [.ref (a 1), .ref (a 16), .ref (a 18), .ref (a 23), .ref (a 25), .ref (a 27)])) :: ((a 25), .inr (4, [.ref (a 26), .int (nI ty)])) :: ((a 26), .inl (K, 60, .inl bf)) :: ((a 27), .inr (1, [.int k1v_2, .int f1v_3, .int s1v_4, .int n1v_5, .int p1v_6, .int m1v_7])) :: (HIST a K rg)) := va_D.swap (a := [((a 1), .inr (6, [.ref (a 2), .ref (a 7), .ref (a 9), .int tol, .int suc, .int fai])), ((a 2), .inr (2, [.ref (a 3), .ref (a 5)])), ((a 3), .inr (4, [.ref (a 4), .int (nI nd)])), ((a 4), .inl (K, 9, .inl df)), ((a 5), .inr (4, [.ref (a 6), .int (nI ns)])), ((a 6), .inl (K, 41, .inl zf)), ((a 7), .inr (4, [.ref (a 8), .int (nI tn)])), ((a 8), .inl (K, 41, .inl tf)), ((a 9), .inr (0, [.ref (a 10), .ref (a 12), .ref (a 14)])), ((a 10), .inr (4, [.ref (a 11), .int (nI k)])), ((a 11), .inl (K, 10, .inl f)), ((a 12), .inr (4, [.ref (a 13), .int (nI k)])), ((a 13), .inl (K, 10, .inl g)), ((a 14), .inr (4, [.ref (a 15), .int (nI k)])), ((a 15), .inl (K, 10, .inl cn)), ((a 16), .inr (5, [.ref (a 17), .int (nI nx), .int (nI kp)])), ((a 17), .inl (KS, 6, .inr (.inr (.inr (.inr (ringF a)))))), ((a 18), .inr (3, [.ref (a 19), .int r1, .ref (a 21), .int r2, .int r3, .int r4, .int r5, .int r6])), ((a 19), .inr (4, [.ref (a 20), .int (nI rn)])), ((a 20), .inl (K, 9, .inl rdf)), ((a 21), .inr (4, [.ref (a 22), .int (nI rln)])), ((a 22), .inl (K, 41, .inl rlf)), ((a 23), .inr (4, [.ref (a 24), .int (nI fon)])), ((a 24), .inl (K, 41, .inl fof))]) (b := (HIST a K rg)) (c := [((a 0), .inr (7, [.ref (a 1), .ref (a 16), .ref (a 18), .ref (a 23), .ref (a 25), .ref (a 27)])), ((a 25), .inr (4, [.ref (a 26), .int (nI ty)])), ((a 26), .inl (K, 60, .inl bf)), ((a 27), .inr (1, [.int k1v_2, .int f1v_3, .int s1v_4, .int n1v_5, .int p1v_6, .int m1v_7]))]) hD
  have hK : va_K D vwCl [(K, .int), (KS, .object "BarcodeWand$State")] s := hK
  have hP : va_P D vwCl (((a 1), .inr (6, [.ref (a 2), .ref (a 7), .ref (a 9), .int tol, .int suc, .int fai])) :: ((a 2), .inr (2, [.ref (a 3), .ref (a 5)])) :: ((a 3), .inr (4, [.ref (a 4), .int (nI nd)])) :: ((a 4), .inl (K, 9, .inl df)) :: ((a 5), .inr (4, [.ref (a 6), .int (nI ns)])) :: ((a 6), .inl (K, 41, .inl zf)) :: ((a 7), .inr (4, [.ref (a 8), .int (nI tn)])) :: ((a 8), .inl (K, 41, .inl tf)) :: ((a 9), .inr (0, [.ref (a 10), .ref (a 12), .ref (a 14)])) :: ((a 10), .inr (4, [.ref (a 11), .int (nI k)])) :: ((a 11), .inl (K, 10, .inl f)) :: ((a 12), .inr (4, [.ref (a 13), .int (nI k)])) :: ((a 13), .inl (K, 10, .inl g)) :: ((a 14), .inr (4, [.ref (a 15), .int (nI k)])) :: ((a 15), .inl (K, 10, .inl cn)) :: ((a 16), .inr (5, [.ref (a 17), .int (nI nx), .int (nI kp)])) :: ((a 17), .inl (KS, 6, .inr (.inr (.inr (.inr (ringF a)))))) :: ((a 18), .inr (3, [.ref (a 19), .int r1, .ref (a 21), .int r2, .int r3, .int r4, .int r5, .int r6])) :: ((a 19), .inr (4, [.ref (a 20), .int (nI rn)])) :: ((a 20), .inl (K, 9, .inl rdf)) :: ((a 21), .inr (4, [.ref (a 22), .int (nI rln)])) :: ((a 22), .inl (K, 41, .inl rlf)) :: ((a 23), .inr (4, [.ref (a 24), .int (nI fon)])) :: ((a 24), .inl (K, 41, .inl fof)) :: ((a 0), .inr (7, [.ref (a 1), .ref (a 16), .ref (a 18), .ref (a 23), .ref (a 25), .ref (a 27)])) :: ((a 25), .inr (4, [.ref (a 26), .int (nI ty)])) :: ((a 26), .inl (K, 60, .inl bf)) :: ((a 27), .inr (1, [.int k1v_2, .int f1v_3, .int s1v_4, .int n1v_5, .int p1v_6, .int m1v_7])) :: (HIST a K rg)) H := hP
  have hD : va_D A (((a 1), .inr (6, [.ref (a 2), .ref (a 7), .ref (a 9), .int tol, .int suc, .int fai])) :: ((a 2), .inr (2, [.ref (a 3), .ref (a 5)])) :: ((a 3), .inr (4, [.ref (a 4), .int (nI nd)])) :: ((a 4), .inl (K, 9, .inl df)) :: ((a 5), .inr (4, [.ref (a 6), .int (nI ns)])) :: ((a 6), .inl (K, 41, .inl zf)) :: ((a 7), .inr (4, [.ref (a 8), .int (nI tn)])) :: ((a 8), .inl (K, 41, .inl tf)) :: ((a 9), .inr (0, [.ref (a 10), .ref (a 12), .ref (a 14)])) :: ((a 10), .inr (4, [.ref (a 11), .int (nI k)])) :: ((a 11), .inl (K, 10, .inl f)) :: ((a 12), .inr (4, [.ref (a 13), .int (nI k)])) :: ((a 13), .inl (K, 10, .inl g)) :: ((a 14), .inr (4, [.ref (a 15), .int (nI k)])) :: ((a 15), .inl (K, 10, .inl cn)) :: ((a 16), .inr (5, [.ref (a 17), .int (nI nx), .int (nI kp)])) :: ((a 17), .inl (KS, 6, .inr (.inr (.inr (.inr (ringF a)))))) :: ((a 18), .inr (3, [.ref (a 19), .int r1, .ref (a 21), .int r2, .int r3, .int r4, .int r5, .int r6])) :: ((a 19), .inr (4, [.ref (a 20), .int (nI rn)])) :: ((a 20), .inl (K, 9, .inl rdf)) :: ((a 21), .inr (4, [.ref (a 22), .int (nI rln)])) :: ((a 22), .inl (K, 41, .inl rlf)) :: ((a 23), .inr (4, [.ref (a 24), .int (nI fon)])) :: ((a 24), .inl (K, 41, .inl fof)) :: ((a 0), .inr (7, [.ref (a 1), .ref (a 16), .ref (a 18), .ref (a 23), .ref (a 25), .ref (a 27)])) :: ((a 25), .inr (4, [.ref (a 26), .int (nI ty)])) :: ((a 26), .inl (K, 60, .inl bf)) :: ((a 27), .inr (1, [.int k1v_2, .int f1v_3, .int s1v_4, .int n1v_5, .int p1v_6, .int m1v_7])) :: (HIST a K rg)) := hD
  have hw_8 : PB bf ty (pk, pf, ps, pn, 0, pm) r_1 (k1v_2, f1v_3, s1v_4, n1v_5, p1v_6, m1v_7) ∧ m01 (k1v_2, f1v_3, s1v_4, n1v_5, p1v_6, m1v_7) := hw_8
  have hP9 : va_P D vwCl (((a 25), .inr (4, [.ref (a 26), .int (nI ty)])) :: ((a 26), .inl (K, 60, .inl bf)) :: ((a 27), .inr (1, [.int k1v_2, .int f1v_3, .int s1v_4, .int n1v_5, .int p1v_6, .int m1v_7])) :: ((a 0), .inr (7, [.ref (a 1), .ref (a 16), .ref (a 18), .ref (a 23), .ref (a 25), .ref (a 27)])) :: ((a 1), .inr (6, [.ref (a 2), .ref (a 7), .ref (a 9), .int tol, .int suc, .int fai])) :: ((a 2), .inr (2, [.ref (a 3), .ref (a 5)])) :: ((a 3), .inr (4, [.ref (a 4), .int (nI nd)])) :: ((a 4), .inl (K, 9, .inl df)) :: ((a 5), .inr (4, [.ref (a 6), .int (nI ns)])) :: ((a 6), .inl (K, 41, .inl zf)) :: ((a 7), .inr (4, [.ref (a 8), .int (nI tn)])) :: ((a 8), .inl (K, 41, .inl tf)) :: ((a 9), .inr (0, [.ref (a 10), .ref (a 12), .ref (a 14)])) :: ((a 10), .inr (4, [.ref (a 11), .int (nI k)])) :: ((a 11), .inl (K, 10, .inl f)) :: ((a 12), .inr (4, [.ref (a 13), .int (nI k)])) :: ((a 13), .inl (K, 10, .inl g)) :: ((a 14), .inr (4, [.ref (a 15), .int (nI k)])) :: ((a 15), .inl (K, 10, .inl cn)) :: ((a 16), .inr (5, [.ref (a 17), .int (nI nx), .int (nI kp)])) :: ((a 17), .inl (KS, 6, .inr (.inr (.inr (.inr (ringF a)))))) :: ((a 18), .inr (3, [.ref (a 19), .int r1, .ref (a 21), .int r2, .int r3, .int r4, .int r5, .int r6])) :: ((a 19), .inr (4, [.ref (a 20), .int (nI rn)])) :: ((a 20), .inl (K, 9, .inl rdf)) :: ((a 21), .inr (4, [.ref (a 22), .int (nI rln)])) :: ((a 22), .inl (K, 41, .inl rlf)) :: ((a 23), .inr (4, [.ref (a 24), .int (nI fon)])) :: ((a 24), .inl (K, 41, .inl fof)) :: (HIST a K rg)) H := k_subP (wp := [((a 1), .inr (6, [.ref (a 2), .ref (a 7), .ref (a 9), .int tol, .int suc, .int fai])), ((a 2), .inr (2, [.ref (a 3), .ref (a 5)])), ((a 3), .inr (4, [.ref (a 4), .int (nI nd)])), ((a 4), .inl (K, 9, .inl df)), ((a 5), .inr (4, [.ref (a 6), .int (nI ns)])), ((a 6), .inl (K, 41, .inl zf)), ((a 7), .inr (4, [.ref (a 8), .int (nI tn)])), ((a 8), .inl (K, 41, .inl tf)), ((a 9), .inr (0, [.ref (a 10), .ref (a 12), .ref (a 14)])), ((a 10), .inr (4, [.ref (a 11), .int (nI k)])), ((a 11), .inl (K, 10, .inl f)), ((a 12), .inr (4, [.ref (a 13), .int (nI k)])), ((a 13), .inl (K, 10, .inl g)), ((a 14), .inr (4, [.ref (a 15), .int (nI k)])), ((a 15), .inl (K, 10, .inl cn)), ((a 16), .inr (5, [.ref (a 17), .int (nI nx), .int (nI kp)])), ((a 17), .inl (KS, 6, .inr (.inr (.inr (.inr (ringF a)))))), ((a 18), .inr (3, [.ref (a 19), .int r1, .ref (a 21), .int r2, .int r3, .int r4, .int r5, .int r6])), ((a 19), .inr (4, [.ref (a 20), .int (nI rn)])), ((a 20), .inl (K, 9, .inl rdf)), ((a 21), .inr (4, [.ref (a 22), .int (nI rln)])), ((a 22), .inl (K, 41, .inl rlf)), ((a 23), .inr (4, [.ref (a 24), .int (nI fon)])), ((a 24), .inl (K, 41, .inl fof)), ((a 0), .inr (7, [.ref (a 1), .ref (a 16), .ref (a 18), .ref (a 23), .ref (a 25), .ref (a 27)])), ((a 25), .inr (4, [.ref (a 26), .int (nI ty)])), ((a 26), .inl (K, 60, .inl bf)), ((a 27), .inr (1, [.int k1v_2, .int f1v_3, .int s1v_4, .int n1v_5, .int p1v_6, .int m1v_7]))]) (wp' := [((a 25), .inr (4, [.ref (a 26), .int (nI ty)])), ((a 26), .inl (K, 60, .inl bf)), ((a 27), .inr (1, [.int k1v_2, .int f1v_3, .int s1v_4, .int n1v_5, .int p1v_6, .int m1v_7])), ((a 0), .inr (7, [.ref (a 1), .ref (a 16), .ref (a 18), .ref (a 23), .ref (a 25), .ref (a 27)])), ((a 1), .inr (6, [.ref (a 2), .ref (a 7), .ref (a 9), .int tol, .int suc, .int fai])), ((a 2), .inr (2, [.ref (a 3), .ref (a 5)])), ((a 3), .inr (4, [.ref (a 4), .int (nI nd)])), ((a 4), .inl (K, 9, .inl df)), ((a 5), .inr (4, [.ref (a 6), .int (nI ns)])), ((a 6), .inl (K, 41, .inl zf)), ((a 7), .inr (4, [.ref (a 8), .int (nI tn)])), ((a 8), .inl (K, 41, .inl tf)), ((a 9), .inr (0, [.ref (a 10), .ref (a 12), .ref (a 14)])), ((a 10), .inr (4, [.ref (a 11), .int (nI k)])), ((a 11), .inl (K, 10, .inl f)), ((a 12), .inr (4, [.ref (a 13), .int (nI k)])), ((a 13), .inl (K, 10, .inl g)), ((a 14), .inr (4, [.ref (a 15), .int (nI k)])), ((a 15), .inl (K, 10, .inl cn)), ((a 16), .inr (5, [.ref (a 17), .int (nI nx), .int (nI kp)])), ((a 17), .inl (KS, 6, .inr (.inr (.inr (.inr (ringF a)))))), ((a 18), .inr (3, [.ref (a 19), .int r1, .ref (a 21), .int r2, .int r3, .int r4, .int r5, .int r6])), ((a 19), .inr (4, [.ref (a 20), .int (nI rn)])), ((a 20), .inl (K, 9, .inl rdf)), ((a 21), .inr (4, [.ref (a 22), .int (nI rln)])), ((a 22), .inl (K, 41, .inl rlf)), ((a 23), .inr (4, [.ref (a 24), .int (nI fon)])), ((a 24), .inl (K, 41, .inl fof))]) (T := (HIST a K rg)) hP [25, 26, 27, 24, 0, 1, 2, 3, 4, 5, 6, 7, 8, 9, 10, 11, 12, 13, 14, 15, 16, 17, 18, 19, 20, 21, 22, 23] rfl
  have hD9 : va_D A (((a 25), .inr (4, [.ref (a 26), .int (nI ty)])) :: ((a 26), .inl (K, 60, .inl bf)) :: ((a 27), .inr (1, [.int k1v_2, .int f1v_3, .int s1v_4, .int n1v_5, .int p1v_6, .int m1v_7])) :: ((a 0), .inr (7, [.ref (a 1), .ref (a 16), .ref (a 18), .ref (a 23), .ref (a 25), .ref (a 27)])) :: ((a 1), .inr (6, [.ref (a 2), .ref (a 7), .ref (a 9), .int tol, .int suc, .int fai])) :: ((a 2), .inr (2, [.ref (a 3), .ref (a 5)])) :: ((a 3), .inr (4, [.ref (a 4), .int (nI nd)])) :: ((a 4), .inl (K, 9, .inl df)) :: ((a 5), .inr (4, [.ref (a 6), .int (nI ns)])) :: ((a 6), .inl (K, 41, .inl zf)) :: ((a 7), .inr (4, [.ref (a 8), .int (nI tn)])) :: ((a 8), .inl (K, 41, .inl tf)) :: ((a 9), .inr (0, [.ref (a 10), .ref (a 12), .ref (a 14)])) :: ((a 10), .inr (4, [.ref (a 11), .int (nI k)])) :: ((a 11), .inl (K, 10, .inl f)) :: ((a 12), .inr (4, [.ref (a 13), .int (nI k)])) :: ((a 13), .inl (K, 10, .inl g)) :: ((a 14), .inr (4, [.ref (a 15), .int (nI k)])) :: ((a 15), .inl (K, 10, .inl cn)) :: ((a 16), .inr (5, [.ref (a 17), .int (nI nx), .int (nI kp)])) :: ((a 17), .inl (KS, 6, .inr (.inr (.inr (.inr (ringF a)))))) :: ((a 18), .inr (3, [.ref (a 19), .int r1, .ref (a 21), .int r2, .int r3, .int r4, .int r5, .int r6])) :: ((a 19), .inr (4, [.ref (a 20), .int (nI rn)])) :: ((a 20), .inl (K, 9, .inl rdf)) :: ((a 21), .inr (4, [.ref (a 22), .int (nI rln)])) :: ((a 22), .inl (K, 41, .inl rlf)) :: ((a 23), .inr (4, [.ref (a 24), .int (nI fon)])) :: ((a 24), .inl (K, 41, .inl fof)) :: (HIST a K rg)) := k_subD (wp := [((a 1), .inr (6, [.ref (a 2), .ref (a 7), .ref (a 9), .int tol, .int suc, .int fai])), ((a 2), .inr (2, [.ref (a 3), .ref (a 5)])), ((a 3), .inr (4, [.ref (a 4), .int (nI nd)])), ((a 4), .inl (K, 9, .inl df)), ((a 5), .inr (4, [.ref (a 6), .int (nI ns)])), ((a 6), .inl (K, 41, .inl zf)), ((a 7), .inr (4, [.ref (a 8), .int (nI tn)])), ((a 8), .inl (K, 41, .inl tf)), ((a 9), .inr (0, [.ref (a 10), .ref (a 12), .ref (a 14)])), ((a 10), .inr (4, [.ref (a 11), .int (nI k)])), ((a 11), .inl (K, 10, .inl f)), ((a 12), .inr (4, [.ref (a 13), .int (nI k)])), ((a 13), .inl (K, 10, .inl g)), ((a 14), .inr (4, [.ref (a 15), .int (nI k)])), ((a 15), .inl (K, 10, .inl cn)), ((a 16), .inr (5, [.ref (a 17), .int (nI nx), .int (nI kp)])), ((a 17), .inl (KS, 6, .inr (.inr (.inr (.inr (ringF a)))))), ((a 18), .inr (3, [.ref (a 19), .int r1, .ref (a 21), .int r2, .int r3, .int r4, .int r5, .int r6])), ((a 19), .inr (4, [.ref (a 20), .int (nI rn)])), ((a 20), .inl (K, 9, .inl rdf)), ((a 21), .inr (4, [.ref (a 22), .int (nI rln)])), ((a 22), .inl (K, 41, .inl rlf)), ((a 23), .inr (4, [.ref (a 24), .int (nI fon)])), ((a 24), .inl (K, 41, .inl fof)), ((a 0), .inr (7, [.ref (a 1), .ref (a 16), .ref (a 18), .ref (a 23), .ref (a 25), .ref (a 27)])), ((a 25), .inr (4, [.ref (a 26), .int (nI ty)])), ((a 26), .inl (K, 60, .inl bf)), ((a 27), .inr (1, [.int k1v_2, .int f1v_3, .int s1v_4, .int n1v_5, .int p1v_6, .int m1v_7]))]) (wp' := [((a 25), .inr (4, [.ref (a 26), .int (nI ty)])), ((a 26), .inl (K, 60, .inl bf)), ((a 27), .inr (1, [.int k1v_2, .int f1v_3, .int s1v_4, .int n1v_5, .int p1v_6, .int m1v_7])), ((a 0), .inr (7, [.ref (a 1), .ref (a 16), .ref (a 18), .ref (a 23), .ref (a 25), .ref (a 27)])), ((a 1), .inr (6, [.ref (a 2), .ref (a 7), .ref (a 9), .int tol, .int suc, .int fai])), ((a 2), .inr (2, [.ref (a 3), .ref (a 5)])), ((a 3), .inr (4, [.ref (a 4), .int (nI nd)])), ((a 4), .inl (K, 9, .inl df)), ((a 5), .inr (4, [.ref (a 6), .int (nI ns)])), ((a 6), .inl (K, 41, .inl zf)), ((a 7), .inr (4, [.ref (a 8), .int (nI tn)])), ((a 8), .inl (K, 41, .inl tf)), ((a 9), .inr (0, [.ref (a 10), .ref (a 12), .ref (a 14)])), ((a 10), .inr (4, [.ref (a 11), .int (nI k)])), ((a 11), .inl (K, 10, .inl f)), ((a 12), .inr (4, [.ref (a 13), .int (nI k)])), ((a 13), .inl (K, 10, .inl g)), ((a 14), .inr (4, [.ref (a 15), .int (nI k)])), ((a 15), .inl (K, 10, .inl cn)), ((a 16), .inr (5, [.ref (a 17), .int (nI nx), .int (nI kp)])), ((a 17), .inl (KS, 6, .inr (.inr (.inr (.inr (ringF a)))))), ((a 18), .inr (3, [.ref (a 19), .int r1, .ref (a 21), .int r2, .int r3, .int r4, .int r5, .int r6])), ((a 19), .inr (4, [.ref (a 20), .int (nI rn)])), ((a 20), .inl (K, 9, .inl rdf)), ((a 21), .inr (4, [.ref (a 22), .int (nI rln)])), ((a 22), .inl (K, 41, .inl rlf)), ((a 23), .inr (4, [.ref (a 24), .int (nI fon)])), ((a 24), .inl (K, 41, .inl fof))]) (T := (HIST a K rg)) hD [25, 26, 27, 24, 0, 1, 2, 3, 4, 5, 6, 7, 8, 9, 10, 11, 12, 13, 14, 15, 16, 17, 18, 19, 20, 21, 22, 23] (by decide) rfl
  have hP9 : va_P D vwCl (((a 25), .inr (4, [.ref (a 26), .int (nI ty)])) :: ((a 26), .inl (K, 60, .inl bf)) :: ((a 27), .inr (1, [.int k1v_2, .int f1v_3, .int s1v_4, .int n1v_5, .int p1v_6, .int m1v_7])) :: (WW a K KS (nd, df, ns, zf, tn, tf, k, f, g, cn, tol, suc, fai) (nx, kp, rg) (r1, r2, r3, r4, r5, r6, rn, rdf, rln, rlf, fon, fof))) H := hP9
  have hD9 : va_D A (((a 25), .inr (4, [.ref (a 26), .int (nI ty)])) :: ((a 26), .inl (K, 60, .inl bf)) :: ((a 27), .inr (1, [.int k1v_2, .int f1v_3, .int s1v_4, .int n1v_5, .int p1v_6, .int m1v_7])) :: (WW a K KS (nd, df, ns, zf, tn, tf, k, f, g, cn, tol, suc, fai) (nx, kp, rg) (r1, r2, r3, r4, r5, r6, rn, rdf, rln, rlf, fon, fof))) := hD9
  have hK9 : va_K D vwCl [] s := hK.sub [] rfl
  exact W.iret (v := r_1) hx hb hr (fun t ht9 hW9 => ⟨⟨r_1, (k1v_2, f1v_3, s1v_4, n1v_5, p1v_6, m1v_7), rfl, by exact ⟨PB_FE rfl hw_8.1, hw_8.2⟩, ⟨by rw [ht9]; exact hP9, va_K.moved hW9.alike hK9, hD9⟩⟩, hS.F ht9⟩) hS.2.2 dX7_firstError_4
