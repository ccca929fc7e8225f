
theorem dX8_can_0 : decode cX8_can 0 = .ok (.iload_n 1, 1) := by decide +kernel
theorem dX8_can_1 : decode cX8_can 1 = .ok (.bipush 112, 2) := by decide +kernel
theorem dX8_can_3 : decode cX8_can 3 = .ok (.if_icmp .eq 32, 3) := by decide +kernel
theorem dX8_can_6 : decode cX8_can 6 = .ok (.iload_n 1, 1) := by decide +kernel
theorem dX8_can_7 : decode cX8_can 7 = .ok (.bipush 115, 2) := by decide +kernel
theorem dX8_can_9 : decode cX8_can 9 = .ok (.if_icmp .ne 17, 3) := by decide +kernel
theorem dX8_can_12 : decode cX8_can 12 = .ok (.aload_n 0, 1) := by decide +kernel
theorem dX8_can_13 : decode cX8_can 13 = .ok (.aload_n 0, 1) := by decide +kernel
theorem dX8_can_14 : decode cX8_can 14 = .ok (.getfield 157, 3) := by decide +kernel
theorem dX8_can_17 : decode cX8_can 17 = .ok (.invokevirtual 68, 3) := by decide +kernel
theorem dX8_can_20 : decode cX8_can 20 = .ok (.ifCond .eq 19, 3) := by decide +kernel
theorem dX8_can_23 : decode cX8_can 23 = .ok (.goto 12, 3) := by decide +kernel
theorem dX8_can_26 : decode cX8_can 26 = .ok (.aload_n 0, 1) := by decide +kernel
theorem dX8_can_27 : decode cX8_can 27 = .ok (.getfield 7, 3) := by decide +kernel
theorem dX8_can_30 : decode cX8_can 30 = .ok (.iconst 0, 1) := by decide +kernel
theorem dX8_can_31 : decode cX8_can 31 = .ok (.iaload, 1) := by decide +kernel
theorem dX8_can_32 : decode cX8_can 32 = .ok (.ifCond .le 7, 3) := by decide +kernel
theorem dX8_can_35 : decode cX8_can 35 = .ok (.iconst 1, 1) := by decide +kernel
theorem dX8_can_36 : decode cX8_can 36 = .ok (.goto 4, 3) := by decide +kernel
theorem dX8_can_39 : decode cX8_can 39 = .ok (.iconst 0, 1) := by decide +kernel
theorem dX8_can_40 : decode cX8_can 40 = .ok (.ireturn, 1) := by decide +kernel
theorem dX8_does_0 : decode cX8_does 0 = .ok (.iload_n 1, 1) := by decide +kernel
theorem dX8_does_1 : decode cX8_does 1 = .ok (.bipush 112, 2) := by decide +kernel
theorem dX8_does_3 : decode cX8_does 3 = .ok (.if_icmp .ne 19, 3) := by decide +kernel
theorem dX8_does_6 : decode cX8_does 6 = .ok (.aload_n 0, 1) := by decide +kernel
theorem dX8_does_7 : decode cX8_does 7 = .ok (.aload_n 0, 1) := by decide +kernel
theorem dX8_does_8 : decode cX8_does 8 = .ok (.getfield 157, 3) := by decide +kernel
theorem dX8_does_11 : decode cX8_does 11 = .ok (.aload_n 0, 1) := by decide +kernel
theorem dX8_does_12 : decode cX8_does 12 = .ok (.getfield 160, 3) := by decide +kernel
theorem dX8_does_15 : decode cX8_does 15 = .ok (.invokevirtual 65, 3) := by decide +kernel
theorem dX8_does_18 : decode cX8_does 18 = .ok (.istore_n 2, 1) := by decide +kernel
theorem dX8_does_19 : decode cX8_does 19 = .ok (.goto 49, 3) := by decide +kernel
theorem dX8_does_22 : decode cX8_does 22 = .ok (.iload_n 1, 1) := by decide +kernel
theorem dX8_does_23 : decode cX8_does 23 = .ok (.bipush 115, 2) := by decide +kernel
theorem dX8_does_25 : decode cX8_does 25 = .ok (.if_icmp .ne 19, 3) := by decide +kernel
theorem dX8_does_28 : decode cX8_does 28 = .ok (.aload_n 0, 1) := by decide +kernel
theorem dX8_does_29 : decode cX8_does 29 = .ok (.aload_n 0, 1) := by decide +kernel
theorem dX8_does_30 : decode cX8_does 30 = .ok (.getfield 157, 3) := by decide +kernel
theorem dX8_does_33 : decode cX8_does 33 = .ok (.aload_n 0, 1) := by decide +kernel
theorem dX8_does_34 : decode cX8_does 34 = .ok (.getfield 160, 3) := by decide +kernel
theorem dX8_does_37 : decode cX8_does 37 = .ok (.invokevirtual 72, 3) := by decide +kernel
theorem dX8_does_40 : decode cX8_does 40 = .ok (.istore_n 2, 1) := by decide +kernel
theorem dX8_does_41 : decode cX8_does 41 = .ok (.goto 27, 3) := by decide +kernel
theorem dX8_does_44 : decode cX8_does 44 = .ok (.aload_n 0, 1) := by decide +kernel
theorem dX8_does_45 : decode cX8_does 45 = .ok (.aload_n 0, 1) := by decide +kernel
theorem dX8_does_46 : decode cX8_does 46 = .ok (.getfield 157, 3) := by decide +kernel
theorem dX8_does_49 : decode cX8_does 49 = .ok (.aload_n 0, 1) := by decide +kernel
theorem dX8_does_50 : decode cX8_does 50 = .ok (.getfield 160, 3) := by decide +kernel
theorem dX8_does_53 : decode cX8_does 53 = .ok (.iload_n 1, 1) := by decide +kernel
theorem dX8_does_54 : decode cX8_does 54 = .ok (.bipush 98, 2) := by decide +kernel
theorem dX8_does_56 : decode cX8_does 56 = .ok (.if_icmp .ne 7, 3) := by decide +kernel
theorem dX8_does_59 : decode cX8_does 59 = .ok (.iconst 1, 1) := by decide +kernel
theorem dX8_does_60 : decode cX8_does 60 = .ok (.goto 4, 3) := by decide +kernel
theorem dX8_does_63 : decode cX8_does 63 = .ok (.iconst 0, 1) := by decide +kernel
theorem dX8_does_64 : decode cX8_does 64 = .ok (.invokevirtual 138, 3) := by decide +kernel
theorem dX8_does_67 : decode cX8_does 67 = .ok (.istore_n 2, 1) := by decide +kernel
theorem dX8_does_68 : decode cX8_does 68 = .ok (.return_, 1) := by decide +kernel
/-! ===== the reference does a command ===== -/
theorem inR_y {v : Int32} {n : Nat} (hn : n ≤ 41) (h : ¬ v < 0) (h2 : ¬ nI n - 1 < v) : 1 = inR v (nI n) := by
  rcases inR_or v (nI n) with w | w
  · exact w.symm
  · rcases in_0 hn w with q | q
    · exact absurd q h
    · exact absurd q h2
theorem inR_n {v : Int32} {n : Nat} (hn : n ≤ 41) (h : v < 0 ∨ nI n - 1 < v) : 0 = inR v (nI n) := by
  rcases inR_or v (nI n) with w | w
  · obtain ⟨h1, h2⟩ := in_1 hn w
    exact absurd h (fun q => q.elim h1 h2)
  · exact w.symm
theorem can_p {L o : Int32} {x : ST} (h : L = 112) : 1 = canF L o x := (if_pos h).symm
theorem can_s {L o : Int32} {x : ST} {r : Int32} (h : ¬ L = 112) (h2 : L = 115) (h3 : inR o (nI (s_ns x)) = r) : r = canF L o x := by
  unfold canF
  rw [if_neg h, if_pos h2, h3]
theorem can_d0 {L o : Int32} {x : ST} (h : ¬ L = 112) (h2 : ¬ L = 115) (h3 : s_ns x = 0) : 0 = canF L o x := by
  unfold canF
  rw [if_neg h, if_neg h2, if_pos h3]
theorem can_d1 {L o : Int32} {x : ST} (h : ¬ L = 112) (h2 : ¬ L = 115) (h3 : ¬ s_ns x = 0) : 1 = canF L o x := by
  unfold canF
  rw [if_neg h, if_neg h2, if_neg h3]
theorem nd_of0 {x : ST} (hl : s_ns x = lnN (s_nd x)) (hn : s_nd x ≤ 9) (h : nI (s_nd x) ≤ 0) : s_ns x = 0 := by
  rcases Nat.lt_or_ge 0 (s_nd x) with q | q
  · exact absurd h (nI_nle q (by omega))
  · rw [hl]
    exact lnN_0 (by omega)
theorem nd_of1 {x : ST} (hl : s_ns x = lnN (s_nd x)) (h : ¬ nI (s_nd x) ≤ 0) : ¬ s_ns x = 0 := fun q => h (by
  have := lnN_or (s_nd x)
  rw [show s_nd x = 0 from by omega]
  decide)
theorem exc_p {x x2 : ST} {q : PS} {L w : Int32} (h : EXC x q 1 x2) (hk : q_k q = L) (hL : L = 112) (hw : w = wOf q) : ∃ j, 1 ≤ j ∧ j ≤ 8 ∧ w = nI j ∧ x2 = setP (q_f q) j x := by
  have hk' : q_k q = 112 := hk.trans hL
  rcases h with ⟨-, -, j, h1, h8, hj, h2⟩ | ⟨h, -⟩ | ⟨h, -⟩
  · refine ⟨j, h1, h8, ?_, h2⟩
    rw [hw]
    unfold wOf
    rw [if_pos hk', hj]
  · exact absurd hk' h
  · exact absurd hk' h
theorem exc_s {x x2 : ST} {q : PS} {L w : Int32} (hb : bST x) (h : EXC x q 1 x2) (hk : q_k q = L) (hL : L = 115) (hw : w = wOf q) : ∃ e, e < s_ns x ∧ q_f q = nI e ∧ x2 = setZ e w x := by
  have hk' : q_k q = 115 := hk.trans hL
  rcases h with ⟨h, -⟩ | ⟨h0, -, h1, h2⟩ | ⟨-, h, -⟩
  · rw [hk'] at h
    exact absurd h (by decide)
  · obtain ⟨e, he, ee⟩ := inR_nat (bST_le hb).2.1 h1.symm
    refine ⟨e, he, ee, ?_⟩
    rw [h2, ee, setZR_1 he (bST_le hb).2.1, hw]
    unfold wOf
    rw [if_neg h0]
  · exact absurd hk' h
theorem exc_d {x x2 : ST} {q : PS} {L o w b : Int32} (h : EXC x q 1 x2) (hk : q_k q = L) (hL : ¬ L = 112) (hL2 : ¬ L = 115) (ho : q_f q = o) (hw : w = wOf q) (hm : ¬ L = 115 → q_m q = 0) (hb : (if L = 98 then 1 else 0) = b) : ¬ s_ns x = 0 ∧ ∃ rr, RC (setT (s_ns x) (cpy (s_drw x o w b) (s_tf x) (s_ns x)) x) x2 rr := by
  have hw2 : w = q_s q := by
    rw [hw]
    unfold wOf sgnP
    rw [hk, if_neg hL, if_pos (hm hL2)]
  rcases h with ⟨h, -⟩ | ⟨-, h, -⟩ | ⟨-, -, ⟨-, h, -⟩ | ⟨h1, -, rr, h2⟩⟩
  · exact absurd (hk.symm.trans h) hL
  · exact absurd (hk.symm.trans h) hL2
  · exact absurd h (by decide)
  · refine ⟨h1, rr, ?_⟩
    rw [hw2, ← ho, ← hb, ← hk]
    exact h2
theorem ch_i2c {c : Int32} (h1 : ¬ c < 33) (h2 : c ≤ 126) : (c.toUInt32 % 65536).toInt32 = c := by
  have h0 : ¬ c < 0 := fun q => h1 (by
    rw [fa_lt] at q ⊢
    have e0 : (0 : Int32).toInt = 0 := by decide
    have e33 : (33 : Int32).toInt = 33 := by decide
    omega)
  obtain ⟨n, hn, rfl⟩ := nI_of2 (M := 126) (n := 126) (by decide) h0 h2
  rw [pk_char, pk_tn (by omega), show n % 65536 = n from by omega]
theorem ch_nar {c : Int32} (h1 : ¬ c < 33) (h2 : c ≤ 126) : vp_nar .char c = c := by
  have h := pk_vc c
  rw [ch_i2c h1 h2] at h
  exact h

set_option maxHeartbeats 4000000 in
set_option maxRecDepth 100000 in
theorem c_M_isElR (l : Launch) (D : va_G) (mo : Nat) (ms : Nat) (sv : Int32) (mb : Nat) (ty : Int32) (th : Int32) (mk : Nat) (ml : Int32) (mfd : Nat) (mf : Int32) (sp : Int32) (on : Int32) (tw : Int32) (K : ClassId) (sf : Nat → Int32) (v : Int32) (nd : Nat) (h0 : sf 0 = nI nd) (hnd : nd ≤ 9) (sz : Nat) : k_Mi (S := Unit) l D yX8_isElement cX8_isElement 2 (some .boolean) 1 0 0 22 [.ref mo, .int v] [(mo, .inr (8, [.ref ms, .int sv, .ref mb, .int ty, .int th, .ref mk, .int ml, .ref mfd, .int mf, .int sp, .int on, .int tw])), (ms, .inl (K, 889, .inl sf))] [(K, .int)] (fun (r : Int32) (_ : Unit) => r = (inR v (nI (lnN nd)))) (fun _ => [(mo, .inr (8, [.ref ms, .int sv, .ref mb, .int ty, .int th, .ref mk, .int ml, .ref mfd, .int mf, .int sp, .int on, .int tw])), (ms, .inl (K, 889, .inl sf))]) (fun _ => []) sz := by
  refine Met.ofW (cc := cX8_isElement) (maxL := 2) (ret := (some .boolean)) (by decide) rfl ?_
  intro p e s m args below meth c s₁ B hml hv
  obtain ⟨rfl, hsz, hP, hK, hD0, hG⟩ := hv
  have hx := B.exec
  have hb := B.bytes
  have hr := B.returns
  have ht : ∀ v9 ∈ wsA, v9.before ([.ref mo, .int v] : List Value).toArray s = true := fun v9 h9 => atoms_spec (ws := k_ws yX8_isElement cX8_isElement 2 (some .boolean)) B.pre v9 (List.mem_cons_of_mem _ h9)
  have hown : s.vm.findClass RX8 = some m.cls := findClass_of_methodNamed B.named
  have S0 : k_C p s m ([.ref mo, .int v] : List Value).toArray c cX8_isElement 2 RX8 := ⟨hx, hb, hml, hown, ht⟩
  have hlocks := B.notSynchronized
  subst hsz
  have hD := hD0.self (sz := s.heap.size)
  generalize hAe : va_A [(mo, .inr (8, [.ref ms, .int sv, .ref mb, .int ty, .int th, .ref mk, .int ml, .ref mfd, .int mf, .int sp, .int on, .int tw])), (ms, .inl (K, 889, .inl sf))] s.heap.size = A at hD hG ⊢
  have hA : ∀ q : Nat, s.heap.size ≤ q → A q := fun q h => by rw [← hAe]; exact Or.inr h
  have hS : va_S A s.heap s.heap [] := va_S.rf
  have hl := lv_entry ([.ref mo, .int v]) (n := 2) (Nat.le_of_ble_eq_true rfl)
  rw [lg_entry_eq]
  generalize (lg_sl ([.ref mo, .int v]) ++ List.replicate (2 - (lg_sl ([.ref mo, .int v])).length) Slot.unset).toArray = ls at hl ⊢
  have hl : lv_has ls 2 [(0, .ref mo), (1, .int v)] := hl
  have hP : va_P D vwCl [(mo, .inr (8, [.ref ms, .int sv, .ref mb, .int ty, .int th, .ref mk, .int ml, .ref mfd, .int mf, .int sp, .int on, .int tw])), (ms, .inl (K, 889, .inl sf))] s.heap := hP
  refine lv_iload_n hx hb dX8_isElement_0 rfl (lv_at hl 1 rfl) ?_
  refine lv_iconst (v := 0) hx hb dX8_isElement_1 (by decide) ?_
  refine lv_aload_n hx hb dX8_isElement_2 rfl (lv_at hl 0 rfl) ?_
  have ct := k_cut_of (wc := [(mo, .inr (8, [.ref ms, .int sv, .ref mb, .int ty, .int th, .ref mk, .int ml, .ref mfd, .int mf, .int sp, .int on, .int tw])), (ms, .inl (K, 889, .inl sf))]) (wr := []) (tc := [(K, .int)]) hG hS hA hK hP hD [0, 1] [] [0] rfl rfl (by decide) (by decide) (by decide) rfl
  refine k_endi (As := [.ref mo]) ct (k_runV (As := []) (rest := [.int 0, .int v]) S0 Lv_X8_38 rfl (ci := 8) (q0 := 0) rfl rfl ct (c_M_many l D mo ms sv mb ty th mk ml mfd mf sp on tw K sf nd (by assumption) (by first | assumption | omega) s.heap.size) hl.1 rfl (Nat.le_of_ble_eq_true rfl) rfl dX8_isElement_3 ⟨⟨Nat.le_of_ble_eq_true rfl, Nat.le_of_ble_eq_true rfl⟩, Nat.le_of_ble_eq_true rfl, Nat.le_of_ble_eq_true rfl⟩) rfl rfl (fun r_1 _ H locs hw_2 hP hD hK hS => ?_)
  have hK : va_K D vwCl [(K, .int)] s := hK
  have hP : va_P D vwCl [(mo, .inr (8, [.ref ms, .int sv, .ref mb, .int ty, .int th, .ref mk, .int ml, .ref mfd, .int mf, .int sp, .int on, .int tw])), (ms, .inl (K, 889, .inl sf))] H := hP
  have hD : va_D A [(mo, .inr (8, [.ref ms, .int sv, .ref mb, .int ty, .int th, .ref mk, .int ml, .ref mfd, .int mf, .int sp, .int on, .int tw])), (ms, .inl (K, 889, .inl sf))] := hD
  have hw_2 : r_1 = (nI (lnN nd)) := hw_2
  have hw_2 := hw_2.symm
  subst hw_2
  refine k_nrm (y := (nI (lnN nd))) rfl ?_
  refine lv_iconst (v := 1) hx hb dX8_isElement_6 (by decide) ?_
  refine lv_isub hx hb dX8_isElement_7 ?_
  refine k_nrm (y := (nI (lnN nd) - 1)) (rfl) ?_
  have ct := k_cut_of (wc := []) (wr := [(mo, .inr (8, [.ref ms, .int sv, .ref mb, .int ty, .int th, .ref mk, .int ml, .ref mfd, .int mf, .int sp, .int on, .int tw])), (ms, .inl (K, 889, .inl sf))]) (tc := []) hG hS hA hK hP hD [] [0, 1] [] rfl rfl (by decide) (by decide) (by decide) rfl
  refine k_endi (As := [.int v, .int 0, .int (nI (lnN nd) - 1)]) ct (k_runS (As := [.int v, .int 0, .int (nI (lnN nd) - 1)]) (rest := []) S0 Ls_X8_46 ct (c_M_in l D v 0 (nI (lnN nd) - 1) H.size) hl.1 rfl (Nat.le_of_ble_eq_true rfl) rfl dX8_isElement_8 ⟨⟨Nat.le_of_ble_eq_true rfl, Nat.le_of_ble_eq_true rfl⟩, Nat.le_of_ble_eq_true rfl, Nat.le_of_ble_eq_true rfl⟩) rfl rfl (fun r_3 _ H locs hw_4 hP hD hK hS => ?_)
  have hK : va_K D vwCl [(K, .int)] s := hK
  have hP : va_P D vwCl [(mo, .inr (8, [.ref ms, .int sv, .ref mb, .int ty, .int th, .ref mk, .int ml, .ref mfd, .int mf, .int sp, .int on, .int tw])), (ms, .inl (K, 889, .inl sf))] H := hP
  have hD : va_D A [(mo, .inr (8, [.ref ms, .int sv, .ref mb, .int ty, .int th, .ref mk, .int ml, .ref mfd, .int mf, .int sp, .int on, .int tw])), (ms, .inl (K, 889, .inl sf))] := hD
  rcases hw_4 with ⟨hr9, c_5, c_6⟩ | ⟨hr9, c_7⟩
  · subst hr9
    have hP9 : va_P D vwCl [(mo, .inr (8, [.ref ms, .int sv, .ref mb, .int ty, .int th, .ref mk, .int ml, .ref mfd, .int mf, .int sp, .int on, .int tw])), (ms, .inl (K, 889, .inl sf))] H := hP.sub [0, 1] rfl
    have hD9 : va_D A [(mo, .inr (8, [.ref ms, .int sv, .ref mb, .int ty, .int th, .ref mk, .int ml, .ref mfd, .int mf, .int sp, .int on, .int tw])), (ms, .inl (K, 889, .inl sf))] := hD.sub [0, 1] (by decide) rfl
    have hK9 : va_K D vwCl [] s := hK.sub [] rfl
    exact W.zret (v := 1) hx hb hr (rfl) (fun t ht9 hW9 => ⟨⟨1, (), rfl, by (exact inR_y (lnN_41 hnd) c_5 c_6), ⟨by rw [ht9]; exact hP9, va_K.moved hW9.alike hK9, hD9⟩⟩, hS.F ht9⟩) hS.2.2 dX8_isElement_11
  · subst hr9
    have hP9 : va_P D vwCl [(mo, .inr (8, [.ref ms, .int sv, .ref mb, .int ty, .int th, .ref mk, .int ml, .ref mfd, .int mf, .int sp, .int on, .int tw])), (ms, .inl (K, 889, .inl sf))] H := hP.sub [0, 1] rfl
    have hD9 : va_D A [(mo, .inr (8, [.ref ms, .int sv, .ref mb, .int ty, .int th, .ref mk, .int ml, .ref mfd, .int mf, .int sp, .int on, .int tw])), (ms, .inl (K, 889, .inl sf))] := hD.sub [0, 1] (by decide) rfl
    have hK9 : va_K D vwCl [] s := hK.sub [] rfl
    exact W.zret (v := 0) hx hb hr (rfl) (fun t ht9 hW9 => ⟨⟨0, (), rfl, by (exact inR_n (lnN_41 hnd) c_7), ⟨by rw [ht9]; exact hP9, va_K.moved hW9.alike hK9, hD9⟩⟩, hS.F ht9⟩) hS.2.2 dX8_isElement_11
set_option maxHeartbeats 4000000 in
set_option maxRecDepth 100000 in
theorem c_M_can (l : Launch) (D : va_G) (mo : Nat) (ms : Nat) (sv : Int32) (mb : Nat) (ty : Int32) (th : Int32) (mk : Nat) (ml : Int32) (mfd : Nat) (mf : Int32) (sp : Int32) (oo : Int32) (tw : Int32) (K : ClassId) (sf : Nat → Int32) (x : ST) (Lc : Int32) (hR : RS x sf) (hbx : bST x) (hlx : labW x) (sz : Nat) : k_Mi (S := Unit) l D yX8_can cX8_can 2 (some .boolean) 2 0 0 43 [.ref mo, .int Lc] [(mo, .inr (8, [.ref ms, .int sv, .ref mb, .int ty, .int th, .ref mk, .int ml, .ref mfd, .int mf, .int sp, .int oo, .int tw])), (ms, .inl (K, 889, .inl sf))] [(K, .int)] (fun (r : Int32) (_ : Unit) => r = (canF Lc oo x)) (fun _ => [(mo, .inr (8, [.ref ms, .int sv, .ref mb, .int ty, .int th, .ref mk, .int ml, .ref mfd, .int mf, .int sp, .int oo, .int tw])), (ms, .inl (K, 889, .inl sf))]) (fun _ => []) sz := by
  refine Met.ofW (cc := cX8_can) (maxL := 2) (ret := (some .boolean)) (by decide) rfl ?_
  intro p e s m args below meth c s₁ B hml hv
  obtain ⟨rfl, hsz, hP, hK, hD0, hG⟩ := hv
  have hx := B.exec
  have hb := B.bytes
  have hr := B.returns
  have ht : ∀ v9 ∈ wsA, v9.before ([.ref mo, .int Lc] : List Value).toArray s = true := fun v9 h9 => atoms_spec (ws := k_ws yX8_can cX8_can 2 (some .boolean)) B.pre v9 (List.mem_cons_of_mem _ h9)
  have hown : s.vm.findClass RX8 = some m.cls := findClass_of_methodNamed B.named
  have S0 : k_C p s m ([.ref mo, .int Lc] : List Value).toArray c cX8_can 2 RX8 := ⟨hx, hb, hml, hown, ht⟩
  have hlocks := B.notSynchronized
  subst hsz
  have hD := hD0.self (sz := s.heap.size)
  generalize hAe : va_A [(mo, .inr (8, [.ref ms, .int sv, .ref mb, .int ty, .int th, .ref mk, .int ml, .ref mfd, .int mf, .int sp, .int oo, .int tw])), (ms, .inl (K, 889, .inl sf))] s.heap.size = A at hD hG ⊢
  have hA : ∀ q : Nat, s.heap.size ≤ q → A q := fun q h => by rw [← hAe]; exact Or.inr h
  have hS : va_S A s.heap s.heap [] := va_S.rf
  have hl := lv_entry ([.ref mo, .int Lc]) (n := 2) (Nat.le_of_ble_eq_true rfl)
  rw [lg_entry_eq]
  generalize (lg_sl ([.ref mo, .int Lc]) ++ List.replicate (2 - (lg_sl ([.ref mo, .int Lc])).length) Slot.unset).toArray = ls at hl ⊢
  have hl : lv_has ls 2 [(0, .ref mo), (1, .int Lc)] := hl
  have hP : va_P D vwCl [(mo, .inr (8, [.ref ms, .int sv, .ref mb, .int ty, .int th, .ref mk, .int ml, .ref mfd, .int mf, .int sp, .int oo, .int tw])), (ms, .inl (K, 889, .inl sf))] s.heap := hP
  have hR9 := hR
  have hlx9 : labW x := hlx
  obtain ⟨q0, q1, q2, h51, q4, h93, ⟨h94, q7⟩, h125, h126⟩ := hR
  obtain ⟨b1, b2, b3, b4⟩ := bST_le hbx
  obtain ⟨hl1, hl2⟩ := hlx
  refine lv_iload_n hx hb dX8_can_0 rfl (lv_at hl 1 rfl) ?_
  refine lv_bipush (v := 112) hx hb dX8_can_1 (by decide) ?_
  refine lv_icmp_eq (tgt := 35) hx hb dX8_can_3 (by decide) (fun c_1 => ?_) (fun c_1 => ?_)
  · have hc9 := c_1
    refine lv_iconst (v := 1) hx hb dX8_can_35 (by decide) ?_
    refine lv_goto (tgt := 40) hx hb dX8_can_36 (by decide) ?_
    have hP9 : va_P D vwCl [(mo, .inr (8, [.ref ms, .int sv, .ref mb, .int ty, .int th, .ref mk, .int ml, .ref mfd, .int mf, .int sp, .int oo, .int tw])), (ms, .inl (K, 889, .inl sf))] s.heap := hP.sub [0, 1] rfl
    have hD9 : va_D A [(mo, .inr (8, [.ref ms, .int sv, .ref mb, .int ty, .int th, .ref mk, .int ml, .ref mfd, .int mf, .int sp, .int oo, .int tw])), (ms, .inl (K, 889, .inl sf))] := hD.sub [0, 1] (by decide) rfl
    have hK9 : va_K D vwCl [] s := hK.sub [] rfl
    exact W.zret (v := 1) hx hb hr (rfl) (fun t ht9 hW9 => ⟨⟨1, (), rfl, by (exact can_p c_1), ⟨by rw [ht9]; exact hP9, va_K.moved hW9.alike hK9, hD9⟩⟩, hS.F ht9⟩) hS.2.2 dX8_can_40
  · have hc9 := c_1
    refine lv_iload_n hx hb dX8_can_6 rfl (lv_at hl 1 rfl) ?_
    refine lv_bipush (v := 115) hx hb dX8_can_7 (by decide) ?_
    refine lv_icmp_ne (tgt := 26) hx hb dX8_can_9 (by decide) (fun c_2 => ?_) (fun c_2 => ?_)
    · have hc9 := c_2
      refine lv_aload_n hx hb dX8_can_26 rfl (lv_at hl 0 rfl) ?_
      refine va_get (D := D) (ci := 8) (v := .ref ms) (C := RX8) (T := TX8) (N := 12) hx hb ht inA_X8 hown hK hP 0 rfl rfl 0 (by decide) (ht _ lf_X8_7) (fun _ h9 => h9) rfl dX8_can_27 ?_
      refine lv_iconst (v := 0) hx hb dX8_can_30 (by decide) ?_
      refine va_iald hx hb hK hP 1 0 rfl rfl (by unfold vp_in; decide) dX8_can_31 ?_
      refine k_nrm (y := (nI (s_nd x))) (show sf (0 : Int32).toNatClampNeg = (nI (s_nd x)) from q0) ?_
      refine lv_if_le (tgt := 39) hx hb dX8_can_32 (by decide) (fun c_3 => ?_) (fun c_3 => ?_)
      · have hc9 := c_3
        refine lv_iconst (v := 0) hx hb dX8_can_39 (by decide) ?_
        have hP9 : va_P D vwCl [(mo, .inr (8, [.ref ms, .int sv, .ref mb, .int ty, .int th, .ref mk, .int ml, .ref mfd, .int mf, .int sp, .int oo, .int tw])), (ms, .inl (K, 889, .inl sf))] s.heap := hP.sub [0, 1] rfl
        have hD9 : va_D A [(mo, .inr (8, [.ref ms, .int sv, .ref mb, .int ty, .int th, .ref mk, .int ml, .ref mfd, .int mf, .int sp, .int oo, .int tw])), (ms, .inl (K, 889, .inl sf))] := hD.sub [0, 1] (by decide) rfl
        have hK9 : va_K D vwCl [] s := hK.sub [] rfl
        exact W.zret (v := 0) hx hb hr (rfl) (fun t ht9 hW9 => ⟨⟨0, (), rfl, by (exact can_d0 c_1 c_2 (nd_of0 hl1 b1 c_3)), ⟨by rw [ht9]; exact hP9, va_K.moved hW9.alike hK9, hD9⟩⟩, hS.F ht9⟩) hS.2.2 dX8_can_40
      · have hc9 := c_3
        refine lv_iconst (v := 1) hx hb dX8_can_35 (by decide) ?_
        refine lv_goto (tgt := 40) hx hb dX8_can_36 (by decide) ?_
        have hP9 : va_P D vwCl [(mo, .inr (8, [.ref ms, .int sv, .ref mb, .int ty, .int th, .ref mk, .int ml, .ref mfd, .int mf, .int sp, .int oo, .int tw])), (ms, .inl (K, 889, .inl sf))] s.heap := hP.sub [0, 1] rfl
        have hD9 : va_D A [(mo, .inr (8, [.ref ms, .int sv, .ref mb, .int ty, .int th, .ref mk, .int ml, .ref mfd, .int mf, .int sp, .int oo, .int tw])), (ms, .inl (K, 889, .inl sf))] := hD.sub [0, 1] (by decide) rfl
        have hK9 : va_K D vwCl [] s := hK.sub [] rfl
        exact W.zret (v := 1) hx hb hr (rfl) (fun t ht9 hW9 => ⟨⟨1, (), rfl, by (exact can_d1 c_1 c_2 (nd_of1 hl1 c_3)), ⟨by rw [ht9]; exact hP9, va_K.moved hW9.alike hK9, hD9⟩⟩, hS.F ht9⟩) hS.2.2 dX8_can_40
    · have hc9 := c_2
      refine lv_aload_n hx hb dX8_can_12 rfl (lv_at hl 0 rfl) ?_
      refine lv_aload_n hx hb dX8_can_13 rfl (lv_at hl 0 rfl) ?_
      refine va_get (D := D) (ci := 8) (v := .int oo) (C := RX8) (T := TX8) (N := 12) hx hb ht inA_X8 hown hK hP 0 rfl rfl 10 (by decide) (ht _ lf_X8_157) (fun _ h9 => h9) rfl dX8_can_14 ?_
      have ct := k_cut_of (wc := [(mo, .inr (8, [.ref ms, .int sv, .ref mb, .int ty, .int th, .ref mk, .int ml, .ref mfd, .int mf, .int sp, .int oo, .int tw])), (ms, .inl (K, 889, .inl sf))]) (wr := []) (tc := [(K, .int)]) hG hS hA hK hP hD [0, 1] [] [0] rfl rfl (by decide) (by decide) (by decide) rfl
      refine k_endi (As := [.ref mo, .int oo]) ct (k_runV (As := [.int oo]) (rest := []) S0 Lv_X8_68 rfl (ci := 8) (q0 := 0) rfl rfl ct (c_M_isElR l D mo ms sv mb ty th mk ml mfd mf sp oo tw K sf oo (s_nd x) (by assumption) (by first | assumption | omega) s.heap.size) hl.1 rfl (Nat.le_of_ble_eq_true rfl) rfl dX8_can_17 ⟨⟨Nat.le_of_ble_eq_true rfl, Nat.le_of_ble_eq_true rfl⟩, Nat.le_of_ble_eq_true rfl, Nat.le_of_ble_eq_true rfl⟩) rfl rfl (fun r_4 _ H locs hw_5 hP hD hK hS => ?_)
      have hK : va_K D vwCl [(K, .int)] s := hK
      have hP : va_P D vwCl [(mo, .inr (8, [.ref ms, .int sv, .ref mb, .int ty, .int th, .ref mk, .int ml, .ref mfd, .int mf, .int sp, .int oo, .int tw])), (ms, .inl (K, 889, .inl sf))] H := hP
      have hD : va_D A [(mo, .inr (8, [.ref ms, .int sv, .ref mb, .int ty, .int th, .ref mk, .int ml, .ref mfd, .int mf, .int sp, .int oo, .int tw])), (ms, .inl (K, 889, .inl sf))] := hD
      have hw_5 : r_4 = (inR oo (nI (lnN (s_nd x)))) := hw_5
      have hw_5 := hw_5.symm
      subst hw_5
      refine k_nrm (y := (inR oo (nI (lnN (s_nd x))))) rfl ?_
      refine k_nrm (y := inR oo (nI (s_ns x))) (by rw [hl1]) ?_
      refine lv_if_eq (tgt := 39) hx hb dX8_can_20 (by decide) (fun c_6 => ?_) (fun c_6 => ?_)
      · have hc9 := c_6
        refine lv_iconst (v := 0) hx hb dX8_can_39 (by decide) ?_
        have hP9 : va_P D vwCl [(mo, .inr (8, [.ref ms, .int sv, .ref mb, .int ty, .int th, .ref mk, .int ml, .ref mfd, .int mf, .int sp, .int oo, .int tw])), (ms, .inl (K, 889, .inl sf))] H := hP.sub [0, 1] rfl
        have hD9 : va_D A [(mo, .inr (8, [.ref ms, .int sv, .ref mb, .int ty, .int th, .ref mk, .int ml, .ref mfd, .int mf, .int sp, .int oo, .int tw])), (ms, .inl (K, 889, .inl sf))] := hD.sub [0, 1] (by decide) rfl
        have hK9 : va_K D vwCl [] s := hK.sub [] rfl
        exact W.zret (v := 0) hx hb hr (rfl) (fun t ht9 hW9 => ⟨⟨0, (), rfl, by (exact can_s c_1 c_2 c_6), ⟨by rw [ht9]; exact hP9, va_K.moved hW9.alike hK9, hD9⟩⟩, hS.F ht9⟩) hS.2.2 dX8_can_40
      · have hc9 := c_6
        refine lv_goto (tgt := 35) hx hb dX8_can_23 (by decide) ?_
        refine lv_iconst (v := 1) hx hb dX8_can_35 (by decide) ?_
        refine lv_goto (tgt := 40) hx hb dX8_can_36 (by decide) ?_
        have hP9 : va_P D vwCl [(mo, .inr (8, [.ref ms, .int sv, .ref mb, .int ty, .int th, .ref mk, .int ml, .ref mfd, .int mf, .int sp, .int oo, .int tw])), (ms, .inl (K, 889, .inl sf))] H := hP.sub [0, 1] rfl
        have hD9 : va_D A [(mo, .inr (8, [.ref ms, .int sv, .ref mb, .int ty, .int th, .ref mk, .int ml, .ref mfd, .int mf, .int sp, .int oo, .int tw])), (ms, .inl (K, 889, .inl sf))] := hD.sub [0, 1] (by decide) rfl
        have hK9 : va_K D vwCl [] s := hK.sub [] rfl
        exact W.zret (v := 1) hx hb hr (rfl) (fun t ht9 hW9 => ⟨⟨1, (), rfl, by (exact can_s c_1 c_2 ((inR_or _ _).resolve_right c_6)), ⟨by rw [ht9]; exact hP9, va_K.moved hW9.alike hK9, hD9⟩⟩, hS.F ht9⟩) hS.2.2 dX8_can_40
set_option maxHeartbeats 4000000 in
set_option maxRecDepth 100000 in
theorem c_M_does (l : Launch) (D : va_G) (mo : Nat) (ms : Nat) (sv : Int32) (mb : Nat) (ty : Int32) (th : Int32) (mk : Nat) (ml : Int32) (mfd : Nat) (mf : Int32) (sp : Int32) (oo : Int32) (tt : Int32) (K : ClassId) (sf : Nat → Int32) (lk : Nat → Int32) (fd : Nat → Int32) (x : ST) (Lc : Int32) (x2 : ST) (qq : PS) (hR : RS x sf) (hbx : bST x) (hlx : labW x) (hex : EXC x qq 1 x2) (hkq : q_k qq = Lc) (hfq : q_f qq = oo) (hwq : tt = wOf qq) (hmq : ¬ Lc = 115 → q_m qq = 0) (sz : Nat) : k_Mv (S := Int32 × Int32 × (Nat → Int32) × (Nat → Int32) × (Nat → Int32)) l D yX8_does cX8_does 3 none 9 0 0 214 [.ref mo, .int Lc] [(mo, .inr (8, [.ref ms, .int sv, .ref mb, .int ty, .int th, .ref mk, .int ml, .ref mfd, .int mf, .int sp, .int oo, .int tt])), (ms, .inl (K, 889, .inl sf)), (mk, .inl (K, 41, .inl lk)), (mfd, .inl (K, 9, .inl fd))] [(K, .int)] (fun (u : Int32 × Int32 × (Nat → Int32) × (Nat → Int32) × (Nat → Int32)) => match u with | (ml1, mf1, sg, lk1, fd1) => RS x2 sg ∧ hiEq sg sf) (fun u => match u with | (ml1, mf1, sg, lk1, fd1) => [(mo, .inr (8, [.ref ms, .int sv, .ref mb, .int ty, .int th, .ref mk, .int ml1, .ref mfd, .int mf1, .int sp, .int oo, .int tt])), (ms, .inl (K, 889, .inl sg)), (mk, .inl (K, 41, .inl lk1)), (mfd, .inl (K, 9, .inl fd1))]) (fun u => match u with | (ml1, mf1, sg, lk1, fd1) => []) sz := by
  refine Met.ofW (cc := cX8_does) (maxL := 3) (ret := none) (by decide) rfl ?_
  intro p e s m args below meth c s₁ B hml hv
  obtain ⟨rfl, hsz, hP, hK, hD0, hG⟩ := hv
  have hx := B.exec
  have hb := B.bytes
  have hr := B.returns
  have ht : ∀ v9 ∈ wsA, v9.before ([.ref mo, .int Lc] : List Value).toArray s = true := fun v9 h9 => atoms_spec (ws := k_ws yX8_does cX8_does 3 none) B.pre v9 (List.mem_cons_of_mem _ h9)
  have hown : s.vm.findClass RX8 = some m.cls := findClass_of_methodNamed B.named
  have S0 : k_C p s m ([.ref mo, .int Lc] : List Value).toArray c cX8_does 3 RX8 := ⟨hx, hb, hml, hown, ht⟩
  have hlocks := B.notSynchronized
  subst hsz
  have hD := hD0.self (sz := s.heap.size)
  generalize hAe : va_A [(mo, .inr (8, [.ref ms, .int sv, .ref mb, .int ty, .int th, .ref mk, .int ml, .ref mfd, .int mf, .int sp, .int oo, .int tt])), (ms, .inl (K, 889, .inl sf)), (mk, .inl (K, 41, .inl lk)), (mfd, .inl (K, 9, .inl fd))] s.heap.size = A at hD hG ⊢
  have hA : ∀ q : Nat, s.heap.size ≤ q → A q := fun q h => by rw [← hAe]; exact Or.inr h
  have hS : va_S A s.heap s.heap [] := va_S.rf
  have hl := lv_entry ([.ref mo, .int Lc]) (n := 3) (Nat.le_of_ble_eq_true rfl)
  rw [lg_entry_eq]
  generalize (lg_sl ([.ref mo, .int Lc]) ++ List.replicate (3 - (lg_sl ([.ref mo, .int Lc])).length) Slot.unset).toArray = ls at hl ⊢
  have hl : lv_has ls 3 [(0, .ref mo), (1, .int Lc)] := hl
  have hP : va_P D vwCl [(mo, .inr (8, [.ref ms, .int sv, .ref mb, .int ty, .int th, .ref mk, .int ml, .ref mfd, .int mf, .int sp, .int oo, .int tt])), (ms, .inl (K, 889, .inl sf)), (mk, .inl (K, 41, .inl lk)), (mfd, .inl (K, 9, .inl fd))] s.heap := hP
  have hR9 := hR
  have hlx9 : labW x := hlx
  obtain ⟨q0, q1, q2, h51, q4, h93, ⟨h94, q7⟩, h125, h126⟩ := hR
  obtain ⟨b1, b2, b3, b4⟩ := bST_le hbx
  obtain ⟨hl1, hl2⟩ := hlx
  refine lv_iload_n hx hb dX8_does_0 rfl (lv_at hl 1 rfl) ?_
  refine lv_bipush (v := 112) hx hb dX8_does_1 (by decide) ?_
  refine lv_icmp_ne (tgt := 22) hx hb dX8_does_3 (by decide) (fun c_1 => ?_) (fun c_1 => ?_)
  · have hc9 := c_1
    refine lv_iload_n hx hb dX8_does_22 rfl (lv_at hl 1 rfl) ?_
    refine lv_bipush (v := 115) hx hb dX8_does_23 (by decide) ?_
    refine lv_icmp_ne (tgt := 44) hx hb dX8_does_25 (by decide) (fun c_2 => ?_) (fun c_2 => ?_)
    · have hc9 := c_2
      refine lv_aload_n hx hb dX8_does_44 rfl (lv_at hl 0 rfl) ?_
      refine lv_aload_n hx hb dX8_does_45 rfl (lv_at hl 0 rfl) ?_
      refine va_get (D := D) (ci := 8) (v := .int oo) (C := RX8) (T := TX8) (N := 12) hx hb ht inA_X8 hown hK hP 0 rfl rfl 10 (by decide) (ht _ lf_X8_157) (fun _ h9 => h9) rfl dX8_does_46 ?_
      refine lv_aload_n hx hb dX8_does_49 rfl (lv_at hl 0 rfl) ?_
      refine va_get (D := D) (ci := 8) (v := .int tt) (C := RX8) (T := TX8) (N := 12) hx hb ht inA_X8 hown hK hP 0 rfl rfl 11 (by decide) (ht _ lf_X8_160) (fun _ h9 => h9) rfl dX8_does_50 ?_
      refine lv_iload_n hx hb dX8_does_53 rfl (lv_at hl 1 rfl) ?_
      refine lv_bipush (v := 98) hx hb dX8_does_54 (by decide) ?_
      refine lv_icmp_ne (tgt := 63) hx hb dX8_does_56 (by decide) (fun c_3 => ?_) (fun c_3 => ?_)
      · have hc9 := c_3
        refine lv_iconst (v := 0) hx hb dX8_does_63 (by decide) ?_
        obtain ⟨hne9, rr, hrr⟩ := exc_d hex hkq c_1 c_2 hfq hwq hmq (if_neg c_3)
        have ct := k_cut_of (wc := [(mo, .inr (8, [.ref ms, .int sv, .ref mb, .int ty, .int th, .ref mk, .int ml, .ref mfd, .int mf, .int sp, .int oo, .int tt])), (ms, .inl (K, 889, .inl sf)), (mk, .inl (K, 41, .inl lk)), (mfd, .inl (K, 9, .inl fd))]) (wr := []) (tc := [(K, .int)]) hG hS hA hK hP hD [0, 1, 2, 3] [] [0] rfl rfl (by decide) (by decide) (by decide) rfl
        refine k_endi (As := [.ref mo, .int oo, .int tt, .int 0]) ct (k_runV (As := [.int oo, .int tt, .int 0]) (rest := []) S0 Lv_X8_138 rfl (ci := 8) (q0 := 0) rfl rfl ct (c_M_draws l D mo ms sv mb ty th mk ml mfd mf sp oo tt K sf lk fd x oo tt 0 x2 rr hR9 (by assumption) hlx9 hrr s.heap.size) hl.1 rfl (Nat.le_of_ble_eq_true rfl) rfl dX8_does_64 ⟨⟨Nat.le_of_ble_eq_true rfl, Nat.le_of_ble_eq_true rfl⟩, Nat.le_of_ble_eq_true rfl, Nat.le_of_ble_eq_true rfl⟩) rfl rfl (fun r_4 u H locs hw_10 hP hD hK hS => ?_)
        obtain ⟨ml1v_5, mf1v_6, sg_7, lk1v_8, fd1v_9⟩ := u
        have hK : va_K D vwCl [(K, .int)] s := hK
        have hP : va_P D vwCl [(mo, .inr (8, [.ref ms, .int sv, .ref mb, .int ty, .int th, .ref mk, .int ml1v_5, .ref mfd, .int mf1v_6, .int sp, .int oo, .int tt])), (ms, .inl (K, 889, .inl sg_7)), (mk, .inl (K, 41, .inl lk1v_8)), (mfd, .inl (K, 9, .inl fd1v_9))] H := hP
        have hD : va_D A [(mo, .inr (8, [.ref ms, .int sv, .ref mb, .int ty, .int th, .ref mk, .int ml1v_5, .ref mfd, .int mf1v_6, .int sp, .int oo, .int tt])), (ms, .inl (K, 889, .inl sg_7)), (mk, .inl (K, 41, .inl lk1v_8)), (mfd, .inl (K, 9, .inl fd1v_9))] := hD
        have hw_10 : r_4 = rr ∧ RS x2 sg_7 ∧ hiEq sg_7 sf := hw_10
        refine lv_istore_n (lv' := [(2, .int r_4), (0, .ref mo), (1, .int Lc)]) hx hb dX8_does_67 rfl hl (by decide) rfl (fun ls hl => ?_)
        have hP9 : va_P D vwCl [(mo, .inr (8, [.ref ms, .int sv, .ref mb, .int ty, .int th, .ref mk, .int ml1v_5, .ref mfd, .int mf1v_6, .int sp, .int oo, .int tt])), (ms, .inl (K, 889, .inl sg_7)), (mk, .inl (K, 41, .inl lk1v_8)), (mfd, .inl (K, 9, .inl fd1v_9))] H := hP.sub [0, 1, 2, 3] rfl
        have hD9 : va_D A [(mo, .inr (8, [.ref ms, .int sv, .ref mb, .int ty, .int th, .ref mk, .int ml1v_5, .ref mfd, .int mf1v_6, .int sp, .int oo, .int tt])), (ms, .inl (K, 889, .inl sg_7)), (mk, .inl (K, 41, .inl lk1v_8)), (mfd, .inl (K, 9, .inl fd1v_9))] := hD.sub [0, 1, 2, 3] (by decide) rfl
        have hK9 : va_K D vwCl [] s := hK.sub [] rfl
        exact W.vret hx hb hr (fun t ht9 hW9 => ⟨⟨(ml1v_5, mf1v_6, sg_7, lk1v_8, fd1v_9), rfl, by (exact hw_10.2), ⟨by rw [ht9]; exact hP9, va_K.moved hW9.alike hK9, hD9⟩⟩, hS.F ht9⟩) hS.2.2 dX8_does_68
      · have hc9 := c_3
        refine lv_iconst (v := 1) hx hb dX8_does_59 (by decide) ?_
        refine lv_goto (tgt := 64) hx hb dX8_does_60 (by decide) ?_
        obtain ⟨hne9, rr, hrr⟩ := exc_d hex hkq c_1 c_2 hfq hwq hmq (if_pos c_3)
        have ct := k_cut_of (wc := [(mo, .inr (8, [.ref ms, .int sv, .ref mb, .int ty, .int th, .ref mk, .int ml, .ref mfd, .int mf, .int sp, .int oo, .int tt])), (ms, .inl (K, 889, .inl sf)), (mk, .inl (K, 41, .inl lk)), (mfd, .inl (K, 9, .inl fd))]) (wr := []) (tc := [(K, .int)]) hG hS hA hK hP hD [0, 1, 2, 3] [] [0] rfl rfl (by decide) (by decide) (by decide) rfl
        refine k_endi (As := [.ref mo, .int oo, .int tt, .int 1]) ct (k_runV (As := [.int oo, .int tt, .int 1]) (rest := []) S0 Lv_X8_138 rfl (ci := 8) (q0 := 0) rfl rfl ct (c_M_draws l D mo ms sv mb ty th mk ml mfd mf sp oo tt K sf lk fd x oo tt 1 x2 rr hR9 (by assumption) hlx9 hrr s.heap.size) hl.1 rfl (Nat.le_of_ble_eq_true rfl) rfl dX8_does_64 ⟨⟨Nat.le_of_ble_eq_true rfl, Nat.le_of_ble_eq_true rfl⟩, Nat.le_of_ble_eq_true rfl, Nat.le_of_ble_eq_true rfl⟩) rfl rfl (fun r_11 u H locs hw_17 hP hD hK hS => ?_)
        obtain ⟨ml1v_12, mf1v_13, sg_14, lk1v_15, fd1v_16⟩ := u
        have hK : va_K D vwCl [(K, .int)] s := hK
        have hP : va_P D vwCl [(mo, .inr (8, [.ref ms, .int sv, .ref mb, .int ty, .int th, .ref mk, .int ml1v_12, .ref mfd, .int mf1v_13, .int sp, .int oo, .int tt])), (ms, .inl (K, 889, .inl sg_14)), (mk, .inl (K, 41, .inl lk1v_15)), (mfd, .inl (K, 9, .inl fd1v_16))] H := hP
        have hD : va_D A [(mo, .inr (8, [.ref ms, .int sv, .ref mb, .int ty, .int th, .ref mk, .int ml1v_12, .ref mfd, .int mf1v_13, .int sp, .int oo, .int tt])), (ms, .inl (K, 889, .inl sg_14)), (mk, .inl (K, 41, .inl lk1v_15)), (mfd, .inl (K, 9, .inl fd1v_16))] := hD
        have hw_17 : r_11 = rr ∧ RS x2 sg_14 ∧ hiEq sg_14 sf := hw_17
        refine lv_istore_n (lv' := [(2, .int r_11), (0, .ref mo), (1, .int Lc)]) hx hb dX8_does_67 rfl hl (by decide) rfl (fun ls hl => ?_)
        have hP9 : va_P D vwCl [(mo, .inr (8, [.ref ms, .int sv, .ref mb, .int ty, .int th, .ref mk, .int ml1v_12, .ref mfd, .int mf1v_13, .int sp, .int oo, .int tt])), (ms, .inl (K, 889, .inl sg_14)), (mk, .inl (K, 41, .inl lk1v_15)), (mfd, .inl (K, 9, .inl fd1v_16))] H := hP.sub [0, 1, 2, 3] rfl
        have hD9 : va_D A [(mo, .inr (8, [.ref ms, .int sv, .ref mb, .int ty, .int th, .ref mk, .int ml1v_12, .ref mfd, .int mf1v_13, .int sp, .int oo, .int tt])), (ms, .inl (K, 889, .inl sg_14)), (mk, .inl (K, 41, .inl lk1v_15)), (mfd, .inl (K, 9, .inl fd1v_16))] := hD.sub [0, 1, 2, 3] (by decide) rfl
        have hK9 : va_K D vwCl [] s := hK.sub [] rfl
        exact W.vret hx hb hr (fun t ht9 hW9 => ⟨⟨(ml1v_12, mf1v_13, sg_14, lk1v_15, fd1v_16), rfl, by (exact hw_17.2), ⟨by rw [ht9]; exact hP9, va_K.moved hW9.alike hK9, hD9⟩⟩, hS.F ht9⟩) hS.2.2 dX8_does_68
    · have hc9 := c_2
      obtain ⟨en, hen, hene, hx2⟩ := exc_s hbx hex hkq c_2 hwq
      have hoe : oo = nI en := hfq.symm.trans hene
      have hf_18 : (oo : Int32) = (nI en) := hoe
      have hP : va_P D vwCl [(mo, .inr (8, [.ref ms, .int sv, .ref mb, .int ty, .int th, .ref mk, .int ml, .ref mfd, .int mf, .int sp, .int (nI en), .int tt])), (ms, .inl (K, 889, .inl sf)), (mk, .inl (K, 41, .inl lk)), (mfd, .inl (K, 9, .inl fd))] s.heap := (congrArg (fun z9 : Int32 => va_P D vwCl [(mo, .inr (8, [.ref ms, .int sv, .ref mb, .int ty, .int th, .ref mk, .int ml, .ref mfd, .int mf, .int sp, .int z9, .int tt])), (ms, .inl (K, 889, .inl sf)), (mk, .inl (K, 41, .inl lk)), (mfd, .inl (K, 9, .inl fd))] s.heap) hf_18).mp hP
      have hD : va_D A [(mo, .inr (8, [.ref ms, .int sv, .ref mb, .int ty, .int th, .ref mk, .int ml, .ref mfd, .int mf, .int sp, .int (nI en), .int tt])), (ms, .inl (K, 889, .inl sf)), (mk, .inl (K, 41, .inl lk)), (mfd, .inl (K, 9, .inl fd))] := (congrArg (fun z9 : Int32 => va_D A [(mo, .inr (8, [.ref ms, .int sv, .ref mb, .int ty, .int th, .ref mk, .int ml, .ref mfd, .int mf, .int sp, .int z9, .int tt])), (ms, .inl (K, 889, .inl sf)), (mk, .inl (K, 41, .inl lk)), (mfd, .inl (K, 9, .inl fd))]) hf_18).mp hD
      refine lv_aload_n hx hb dX8_does_28 rfl (lv_at hl 0 rfl) ?_
      refine lv_aload_n hx hb dX8_does_29 rfl (lv_at hl 0 rfl) ?_
      refine va_get (D := D) (ci := 8) (v := .int (nI en)) (C := RX8) (T := TX8) (N := 12) hx hb ht inA_X8 hown hK hP 0 rfl rfl 10 (by decide) (ht _ lf_X8_157) (fun _ h9 => h9) rfl dX8_does_30 ?_
      refine lv_aload_n hx hb dX8_does_33 rfl (lv_at hl 0 rfl) ?_
      refine va_get (D := D) (ci := 8) (v := .int tt) (C := RX8) (T := TX8) (N := 12) hx hb ht inA_X8 hown hK hP 0 rfl rfl 11 (by decide) (ht _ lf_X8_160) (fun _ h9 => h9) rfl dX8_does_34 ?_
      have ct := k_cut_of (wc := [(mo, .inr (8, [.ref ms, .int sv, .ref mb, .int ty, .int th, .ref mk, .int ml, .ref mfd, .int mf, .int sp, .int (nI en), .int tt])), (ms, .inl (K, 889, .inl sf))]) (wr := [(mk, .inl (K, 41, .inl lk)), (mfd, .inl (K, 9, .inl fd))]) (tc := [(K, .int)]) hG hS hA hK hP hD [0, 1] [2, 3] [0] rfl rfl (by decide) (by decide) (by decide) rfl
      refine k_endi (As := [.ref mo, .int (nI en), .int tt]) ct (k_runV (As := [.int (nI en), .int tt]) (rest := []) S0 Lv_X8_72 rfl (ci := 8) (q0 := 0) rfl rfl ct (c_M_smudges l D mo ms sv mb ty th mk ml mfd mf sp (nI en) tt K sf en tt (s_zf x) (by omega) (q2 en hen) s.heap.size) hl.1 rfl (Nat.le_of_ble_eq_true rfl) rfl dX8_does_37 ⟨⟨Nat.le_of_ble_eq_true rfl, Nat.le_of_ble_eq_true rfl⟩, Nat.le_of_ble_eq_true rfl, Nat.le_of_ble_eq_true rfl⟩) rfl rfl (fun r_19 _ H locs hw_20 hP hD hK hS => ?_)
      have hK : va_K D vwCl [(K, .int)] s := hK
      have hP : va_P D vwCl [(mk, .inl (K, 41, .inl lk)), (mfd, .inl (K, 9, .inl fd)), (mo, .inr (8, [.ref ms, .int sv, .ref mb, .int ty, .int th, .ref mk, .int ml, .ref mfd, .int mf, .int sp, .int (nI en), .int tt])), (ms, .inl (K, 889, .inl (upd sf (10 + en) tt)))] H := hP
      have hD : va_D A [(mk, .inl (K, 41, .inl lk)), (mfd, .inl (K, 9, .inl fd)), (mo, .inr (8, [.ref ms, .int sv, .ref mb, .int ty, .int th, .ref mk, .int ml, .ref mfd, .int mf, .int sp, .int (nI en), .int tt])), (ms, .inl (K, 889, .inl (upd sf (10 + en) tt)))] := hD
      have hw_20 : r_19 = ((s_zf x) en) := hw_20
      have hw_20 := hw_20.symm
      subst hw_20
      refine k_nrm (y := ((s_zf x) en)) rfl ?_
      refine lv_istore_n (lv' := [(2, .int ((s_zf x) en)), (0, .ref mo), (1, .int Lc)]) hx hb dX8_does_40 rfl hl (by decide) rfl (fun ls hl => ?_)
      refine lv_goto (tgt := 68) hx hb dX8_does_41 (by decide) ?_
      have hf_21 : ((nI en) : Int32) = oo := by first | rfl | exact hjw.symm | exact hoe.symm
      have hP : va_P D vwCl [(mk, .inl (K, 41, .inl lk)), (mfd, .inl (K, 9, .inl fd)), (mo, .inr (8, [.ref ms, .int sv, .ref mb, .int ty, .int th, .ref mk, .int ml, .ref mfd, .int mf, .int sp, .int oo, .int tt])), (ms, .inl (K, 889, .inl (upd sf (10 + en) tt)))] H := (congrArg (fun z9 : Int32 => va_P D vwCl [(mk, .inl (K, 41, .inl lk)), (mfd, .inl (K, 9, .inl fd)), (mo, .inr (8, [.ref ms, .int sv, .ref mb, .int ty, .int th, .ref mk, .int ml, .ref mfd, .int mf, .int sp, .int z9, .int tt])), (ms, .inl (K, 889, .inl (upd sf (10 + en) tt)))] H) hf_21).mp hP
      have hD : va_D A [(mk, .inl (K, 41, .inl lk)), (mfd, .inl (K, 9, .inl fd)), (mo, .inr (8, [.ref ms, .int sv, .ref mb, .int ty, .int th, .ref mk, .int ml, .ref mfd, .int mf, .int sp, .int oo, .int tt])), (ms, .inl (K, 889, .inl (upd sf (10 + en) tt)))] := (congrArg (fun z9 : Int32 => va_D A [(mk, .inl (K, 41, .inl lk)), (mfd, .inl (K, 9, .inl fd)), (mo, .inr (8, [.ref ms, .int sv, .ref mb, .int ty, .int th, .ref mk, .int ml, .ref mfd, .int mf, .int sp, .int z9, .int tt])), (ms, .inl (K, 889, .inl (upd sf (10 + en) tt)))]) hf_21).mp hD
      have hP9 : va_P D vwCl [(mo, .inr (8, [.ref ms, .int sv, .ref mb, .int ty, .int th, .ref mk, .int ml, .ref mfd, .int mf, .int sp, .int oo, .int tt])), (ms, .inl (K, 889, .inl (upd sf (10 + en) tt))), (mk, .inl (K, 41, .inl lk)), (mfd, .inl (K, 9, .inl fd))] H := hP.sub [2, 3, 0, 1] rfl
      have hD9 : va_D A [(mo, .inr (8, [.ref ms, .int sv, .ref mb, .int ty, .int th, .ref mk, .int ml, .ref mfd, .int mf, .int sp, .int oo, .int tt])), (ms, .inl (K, 889, .inl (upd sf (10 + en) tt))), (mk, .inl (K, 41, .inl lk)), (mfd, .inl (K, 9, .inl fd))] := hD.sub [2, 3, 0, 1] (by decide) rfl
      have hK9 : va_K D vwCl [] s := hK.sub [] rfl
      exact W.vret hx hb hr (fun t ht9 hW9 => ⟨⟨(ml, mf, (upd sf (10 + en) tt), lk, fd), rfl, by (exact ⟨by rw [hx2]; exact (RS_smudge hbx hR9 hen).1, (RS_smudge hbx hR9 hen).2⟩), ⟨by rw [ht9]; exact hP9, va_K.moved hW9.alike hK9, hD9⟩⟩, hS.F ht9⟩) hS.2.2 dX8_does_68
  · have hc9 := c_1
    obtain ⟨jj, hj1, hj8, hjw, hx2⟩ := exc_p hex hkq c_1 hwq
    have hf_22 : (tt : Int32) = (nI jj) := hjw
    have hP : va_P D vwCl [(mo, .inr (8, [.ref ms, .int sv, .ref mb, .int ty, .int th, .ref mk, .int ml, .ref mfd, .int mf, .int sp, .int oo, .int (nI jj)])), (ms, .inl (K, 889, .inl sf)), (mk, .inl (K, 41, .inl lk)), (mfd, .inl (K, 9, .inl fd))] s.heap := (congrArg (fun z9 : Int32 => va_P D vwCl [(mo, .inr (8, [.ref ms, .int sv, .ref mb, .int ty, .int th, .ref mk, .int ml, .ref mfd, .int mf, .int sp, .int oo, .int z9])), (ms, .inl (K, 889, .inl sf)), (mk, .inl (K, 41, .inl lk)), (mfd, .inl (K, 9, .inl fd))] s.heap) hf_22).mp hP
    have hD : va_D A [(mo, .inr (8, [.ref ms, .int sv, .ref mb, .int ty, .int th, .ref mk, .int ml, .ref mfd, .int mf, .int sp, .int oo, .int (nI jj)])), (ms, .inl (K, 889, .inl sf)), (mk, .inl (K, 41, .inl lk)), (mfd, .inl (K, 9, .inl fd))] := (congrArg (fun z9 : Int32 => va_D A [(mo, .inr (8, [.ref ms, .int sv, .ref mb, .int ty, .int th, .ref mk, .int ml, .ref mfd, .int mf, .int sp, .int oo, .int z9])), (ms, .inl (K, 889, .inl sf)), (mk, .inl (K, 41, .inl lk)), (mfd, .inl (K, 9, .inl fd))]) hf_22).mp hD
    refine lv_aload_n hx hb dX8_does_6 rfl (lv_at hl 0 rfl) ?_
    refine lv_aload_n hx hb dX8_does_7 rfl (lv_at hl 0 rfl) ?_
    refine va_get (D := D) (ci := 8) (v := .int oo) (C := RX8) (T := TX8) (N := 12) hx hb ht inA_X8 hown hK hP 0 rfl rfl 10 (by decide) (ht _ lf_X8_157) (fun _ h9 => h9) rfl dX8_does_8 ?_
    refine lv_aload_n hx hb dX8_does_11 rfl (lv_at hl 0 rfl) ?_
    refine va_get (D := D) (ci := 8) (v := .int (nI jj)) (C := RX8) (T := TX8) (N := 12) hx hb ht inA_X8 hown hK hP 0 rfl rfl 11 (by decide) (ht _ lf_X8_160) (fun _ h9 => h9) rfl dX8_does_12 ?_
    have ct := k_cut_of (wc := [(mo, .inr (8, [.ref ms, .int sv, .ref mb, .int ty, .int th, .ref mk, .int ml, .ref mfd, .int mf, .int sp, .int oo, .int (nI jj)])), (ms, .inl (K, 889, .inl sf))]) (wr := [(mk, .inl (K, 41, .inl lk)), (mfd, .inl (K, 9, .inl fd))]) (tc := [(K, .int)]) hG hS hA hK hP hD [0, 1] [2, 3] [0] rfl rfl (by decide) (by decide) (by decide) rfl
    refine k_endi (As := [.ref mo, .int oo, .int (nI jj)]) ct (k_runV (As := [.int oo, .int (nI jj)]) (rest := []) S0 Lv_X8_65 rfl (ci := 8) (q0 := 0) rfl rfl ct (c_M_prints l D mo ms sv mb ty th mk ml mfd mf sp oo (nI jj) K sf oo jj hj1 hj8 s.heap.size) hl.1 rfl (Nat.le_of_ble_eq_true rfl) rfl dX8_does_15 ⟨⟨Nat.le_of_ble_eq_true rfl, Nat.le_of_ble_eq_true rfl⟩, Nat.le_of_ble_eq_true rfl, Nat.le_of_ble_eq_true rfl⟩) rfl rfl (fun r_23 _ H locs hw_24 hP hD hK hS => ?_)
    have hK : va_K D vwCl [(K, .int)] s := hK
    have hP : va_P D vwCl [(mk, .inl (K, 41, .inl lk)), (mfd, .inl (K, 9, .inl fd)), (mo, .inr (8, [.ref ms, .int sv, .ref mb, .int ty, .int th, .ref mk, .int ml, .ref mfd, .int mf, .int sp, .int oo, .int (nI jj)])), (ms, .inl (K, 889, .inl (zrM (upd (upd (dgs oo 1 jj sf jj) (1 + jj) (chkd (cS oo jj))) 0 (nI (jj + 1))) 41)))] H := hP
    have hD : va_D A [(mk, .inl (K, 41, .inl lk)), (mfd, .inl (K, 9, .inl fd)), (mo, .inr (8, [.ref ms, .int sv, .ref mb, .int ty, .int th, .ref mk, .int ml, .ref mfd, .int mf, .int sp, .int oo, .int (nI jj)])), (ms, .inl (K, 889, .inl (zrM (upd (upd (dgs oo 1 jj sf jj) (1 + jj) (chkd (cS oo jj))) 0 (nI (jj + 1))) 41)))] := hD
    have hw_24 : r_23 = (chkd (cS oo jj)) := hw_24
    have hw_24 := hw_24.symm
    subst hw_24
    refine k_nrm (y := (chkd (cS oo jj))) rfl ?_
    refine lv_istore_n (lv' := [(2, .int (chkd (cS oo jj))), (0, .ref mo), (1, .int Lc)]) hx hb dX8_does_18 rfl hl (by decide) rfl (fun ls hl => ?_)
    refine lv_goto (tgt := 68) hx hb dX8_does_19 (by decide) ?_
    have hf_25 : ((nI jj) : Int32) = tt := by first | rfl | exact hjw.symm | exact hoe.symm
    have hP : va_P D vwCl [(mk, .inl (K, 41, .inl lk)), (mfd, .inl (K, 9, .inl fd)), (mo, .inr (8, [.ref ms, .int sv, .ref mb, .int ty, .int th, .ref mk, .int ml, .ref mfd, .int mf, .int sp, .int oo, .int tt])), (ms, .inl (K, 889, .inl (zrM (upd (upd (dgs oo 1 jj sf jj) (1 + jj) (chkd (cS oo jj))) 0 (nI (jj + 1))) 41)))] H := (congrArg (fun z9 : Int32 => va_P D vwCl [(mk, .inl (K, 41, .inl lk)), (mfd, .inl (K, 9, .inl fd)), (mo, .inr (8, [.ref ms, .int sv, .ref mb, .int ty, .int th, .ref mk, .int ml, .ref mfd, .int mf, .int sp, .int oo, .int z9])), (ms, .inl (K, 889, .inl (zrM (upd (upd (dgs oo 1 jj sf jj) (1 + jj) (chkd (cS oo jj))) 0 (nI (jj + 1))) 41)))] H) hf_25).mp hP
    have hD : va_D A [(mk, .inl (K, 41, .inl lk)), (mfd, .inl (K, 9, .inl fd)), (mo, .inr (8, [.ref ms, .int sv, .ref mb, .int ty, .int th, .ref mk, .int ml, .ref mfd, .int mf, .int sp, .int oo, .int tt])), (ms, .inl (K, 889, .inl (zrM (upd (upd (dgs oo 1 jj sf jj) (1 + jj) (chkd (cS oo jj))) 0 (nI (jj + 1))) 41)))] := (congrArg (fun z9 : Int32 => va_D A [(mk, .inl (K, 41, .inl lk)), (mfd, .inl (K, 9, .inl fd)), (mo, .inr (8, [.ref ms, .int sv, .ref mb, .int ty, .int th, .ref mk, .int ml, .ref mfd, .int mf, .int sp, .int oo, .int z9])), (ms, .inl (K, 889, .inl (zrM (upd (upd (dgs oo 1 jj sf jj) (1 + jj) (chkd (cS oo jj))) 0 (nI (jj + 1))) 41)))]) hf_25).mp hD
    have hP9 : va_P D vwCl [(mo, .inr (8, [.ref ms, .int sv, .ref mb, .int ty, .int th, .ref mk, .int ml, .ref mfd, .int mf, .int sp, .int oo, .int tt])), (ms, .inl (K, 889, .inl (zrM (upd (upd (dgs oo 1 jj sf jj) (1 + jj) (chkd (cS oo jj))) 0 (nI (jj + 1))) 41))), (mk, .inl (K, 41, .inl lk)), (mfd, .inl (K, 9, .inl fd))] H := hP.sub [2, 3, 0, 1] rfl
    have hD9 : va_D A [(mo, .inr (8, [.ref ms, .int sv, .ref mb, .int ty, .int th, .ref mk, .int ml, .ref mfd, .int mf, .int sp, .int oo, .int tt])), (ms, .inl (K, 889, .inl (zrM (upd (upd (dgs oo 1 jj sf jj) (1 + jj) (chkd (cS oo jj))) 0 (nI (jj + 1))) 41))), (mk, .inl (K, 41, .inl lk)), (mfd, .inl (K, 9, .inl fd))] := hD.sub [2, 3, 0, 1] (by decide) rfl
    have hK9 : va_K D vwCl [] s := hK.sub [] rfl
    exact W.vret hx hb hr (fun t ht9 hW9 => ⟨⟨(ml, mf, (zrM (upd (upd (dgs oo 1 jj sf jj) (1 + jj) (chkd (cS oo jj))) 0 (nI (jj + 1))) 41), lk, fd), rfl, by (exact ⟨by rw [hx2, hfq]; exact (RS_print hbx hR9 hj8).1, (RS_print hbx hR9 hj8).2⟩), ⟨by rw [ht9]; exact hP9, va_K.moved hW9.alike hK9, hD9⟩⟩, hS.F ht9⟩) hS.2.2 dX8_does_68
