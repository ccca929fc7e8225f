
/-! ===== the first state; how many are kept ===== -/
theorem inv_0 : invS 0 st0 := by
  refine ⟨⟨Nat.zero_le _, Nat.zero_le _, Nat.zero_le _, Nat.zero_le _⟩, Or.inl ⟨rfl, rfl⟩, ⟨4, by decide, by decide, rfl⟩, ?_⟩
  refine ⟨fun i hi => absurd hi (Nat.not_lt_zero i), fun i j _ hj => absurd hj (Nat.not_lt_zero j), fun _ => 0, 0, fun i hi => absurd hi (Nat.not_lt_zero i), rfl, Nat.le_refl 0, Nat.le_refl 0, Or.inr rfl⟩
theorem okH_0 : okH hs0 := ⟨by decide, by decide, fun j _ => inv_0.1⟩
theorem kp_lt6 {n : Nat} (h : ¬ (6 : Int32) ≤ nI n) (hn : n ≤ 6) : n + 1 ≤ 6 := by
  rcases Nat.lt_or_ge n 6 with q | q
  · exact q
  · exact absurd (nI_le (a := 6) q (by omega)) h
theorem kp_ge6 {n : Nat} (h : (6 : Int32) ≤ nI n) (hn : n ≤ 6) : n = 6 := by
  rcases Nat.lt_or_ge n 6 with q | q
  · exact absurd h (nI_ge (b := 6) q (by decide))
  · omega
theorem kp_a {hs : HT} {x : ST} (h : ¬ (6 : Int32) ≤ nI (h_kp hs)) (hk : okH hs) : nI (h_kp (svH hs x)) = nI (h_kp hs + 1) := by
  rw [kp_sv, Nat.min_eq_left (kp_lt6 h (kp_6 hk))]
theorem kp_b {hs : HT} {x : ST} (h : (6 : Int32) ≤ nI (h_kp hs)) (hk : okH hs) : nI (h_kp (svH hs x)) = 6 := by
  rw [kp_sv, kp_ge6 h (kp_6 hk)]
  rfl
theorem kp_c {hs : HT} {x : ST} (h : ¬ (6 : Int32) ≤ nI (h_kp hs)) (hk : okH hs) : nI (h_kp (svH hs x) - 1) = nI (h_kp hs) := by
  rw [kp_sv, Nat.min_eq_left (kp_lt6 h (kp_6 hk)), Nat.add_sub_cancel]
theorem k_runSX {p : Program} {l : Launch} {e : Env} {R : Room} {s : State} {m : MethodId} {args : Array Value} {below : List Frame} {meth : Method} {c : Code} {H : Heap} {locs : List Loc} {cells slots : Nat} {cc : ByteArray} {pc : Nat} {ls : Array Slot} {rest st0 : List Value} {y : MethodName} {bytes : ByteArray} {maxL nL n index : Nat} {ret : Option FieldType} {own : String} {As : List Value} {fr mc ms lo : Nat} {Pc : Array Value → State → Prop} {Qc : Array Value → State → Outcome → State → Prop} {free : Addr → Prop} (S : k_C p s m args c cc nL own) (L : k_LS own index y bytes maxL ret n) (hpre : PreS s H Pc As)
    (hM : Met l y (k_ws y bytes maxL ret) (k_rm fr mc ms lo) Pc Qc mc ms free) (hsz : ls.size = nL) (hst : st0 = As.reverse ++ rest) (hW : (rest.map fun v => v.category).sum ≤ 8) (hn : As.length = n) (hdg : decode cc pc = .ok (.invokestatic index, 3)) (hf : k_fit R fr lo maxL mc ms cells slots) :
    va_Run p l e R s m args below meth c H locs cells slots mc ms (F0 m pc ls st0) rest (Qc As.toArray) free := by
  obtain ⟨L1, L2, L4, L5, L6⟩ := L
  exact va_runS S hM ⟨k_callB S.2.2.2.2 (S.2.2.2.2 _ L1) L4 L5 L6 hf.1, S.2.2.2.2 _ L2⟩ hpre rfl hn hsz hst (lv_room (m := m) (pc := pc) (ls := ls) (rest := st0) hW) hdg hf.2
/-- the start of a call that looks into the script -/
def k_PX (D : va_G) (av : List Value) (sz bq L : Nat) (xs : Nat → Int32) : Array Value → State → Prop := fun a U => k_P D av [] [] sz a U ∧ va_X bq L xs U U.heap ∧ bq < sz ∧ L < 2 ^ 31
theorem k_preX {s : State} {H : Heap} {locs : List Loc} {A0 : Nat → Prop} {D : va_G} {ws wr : va_W} {tys : k_T} {As : List Value} {bq L : Nat} {xs : Nat → Int32} (ct : k_cut D A0 s H locs ws [] wr tys []) (hX : va_X bq L xs s s.heap) (hbl : bq < s.heap.size) (hbA : ¬ A0 bq) (hL : L < 2 ^ 31) : PreS s H (k_PX D As H.size bq L xs) As := by
  have h1 := k_preS (As := As) ct
  obtain ⟨hG, hS, -⟩ := ct
  refine ⟨fun a U g mk q => ⟨h1.1 a U g mk q.1, va_X.moved (u := U) (U := U.calling g mk a) (Vm.Alike.refl U.vm) q.2.1, q.2.2⟩, fun U hU hW => ⟨h1.2 U hU hW, ?_, Nat.lt_of_lt_of_le hbl hS.1, hL⟩⟩
  rw [hU]
  exact (hX.moved hW.alike).kept (hS.2.1 bq hbl hbA)

