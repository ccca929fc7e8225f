theorem inA_X3 : ∀ w ∈ u_ws RX3 TX3 8, w ∈ wsA := by
  show ∀ w ∈ ([u_lay RX3 TX3 0, u_lay RX3 TX3 1, u_lay RX3 TX3 2, u_lay RX3 TX3 3, u_lay RX3 TX3 4, u_lay RX3 TX3 5, u_lay RX3 TX3 6, u_lay RX3 TX3 7] : List Cond), w ∈ wsA
  exact List.forall_mem_cons.mpr ⟨mA 148 rfl rfl, List.forall_mem_cons.mpr ⟨mA 150 rfl rfl, List.forall_mem_cons.mpr ⟨mA 152 rfl rfl, List.forall_mem_cons.mpr ⟨mA 154 rfl rfl, List.forall_mem_cons.mpr ⟨mA 156 rfl rfl, List.forall_mem_cons.mpr ⟨mA 158 rfl rfl, List.forall_mem_cons.mpr ⟨mA 160 rfl rfl, List.forall_mem_cons.mpr ⟨mA 162 rfl rfl, fun _ h => absurd h List.not_mem_nil⟩⟩⟩⟩⟩⟩⟩⟩
theorem lf_X3_65 : Cond.fieldLink RX3 65 "BarcodeWand$Reader" "sumOfTimes" "I" ∈ wsA := mA 144 rfl rfl
theorem lf_X3_84 : Cond.fieldLink RX3 84 "BarcodeWand$Reader" "failedFrom" "I" ∈ wsA := mA 146 rfl rfl
theorem lf_X3_87 : Cond.fieldLink RX3 87 "BarcodeWand$Reader" "failedTo" "I" ∈ wsA := mA 147 rfl rfl
theorem dX3_amountOff_0 : decode cX3_amountOff 0 = .ok (.bipush 7, 2) := by decide +kernel
theorem dX3_amountOff_2 : decode cX3_amountOff 2 = .ok (.iload_n 1, 1) := by decide +kernel
theorem dX3_amountOff_3 : decode cX3_amountOff 3 = .ok (.imul, 1) := by decide +kernel
theorem dX3_amountOff_4 : decode cX3_amountOff 4 = .ok (.aload_n 0, 1) := by decide +kernel
theorem dX3_amountOff_5 : decode cX3_amountOff 5 = .ok (.getfield 65, 3) := by decide +kernel
theorem dX3_amountOff_8 : decode cX3_amountOff 8 = .ok (.iload_n 2, 1) := by decide +kernel
theorem dX3_amountOff_9 : decode cX3_amountOff 9 = .ok (.imul, 1) := by decide +kernel
theorem dX3_amountOff_10 : decode cX3_amountOff 10 = .ok (.isub, 1) := by decide +kernel
theorem dX3_amountOff_11 : decode cX3_amountOff 11 = .ok (.istore_n 3, 1) := by decide +kernel
theorem dX3_amountOff_12 : decode cX3_amountOff 12 = .ok (.iload_n 3, 1) := by decide +kernel
theorem dX3_amountOff_13 : decode cX3_amountOff 13 = .ok (.ifCond .ge 8, 3) := by decide +kernel
theorem dX3_amountOff_16 : decode cX3_amountOff 16 = .ok (.iload_n 3, 1) := by decide +kernel
theorem dX3_amountOff_17 : decode cX3_amountOff 17 = .ok (.ineg, 1) := by decide +kernel
theorem dX3_amountOff_18 : decode cX3_amountOff 18 = .ok (.goto 4, 3) := by decide +kernel
theorem dX3_amountOff_21 : decode cX3_amountOff 21 = .ok (.iload_n 3, 1) := by decide +kernel
theorem dX3_amountOff_22 : decode cX3_amountOff 22 = .ok (.ireturn, 1) := by decide +kernel
theorem dX3_failAt_0 : decode cX3_failAt 0 = .ok (.aload_n 0, 1) := by decide +kernel
theorem dX3_failAt_1 : decode cX3_failAt 1 = .ok (.iload_n 2, 1) := by decide +kernel
theorem dX3_failAt_2 : decode cX3_failAt 2 = .ok (.putfield 84, 3) := by decide +kernel
theorem dX3_failAt_5 : decode cX3_failAt 5 = .ok (.aload_n 0, 1) := by decide +kernel
theorem dX3_failAt_6 : decode cX3_failAt 6 = .ok (.iload_n 3, 1) := by decide +kernel
theorem dX3_failAt_7 : decode cX3_failAt 7 = .ok (.putfield 87, 3) := by decide +kernel
theorem dX3_failAt_10 : decode cX3_failAt 10 = .ok (.iload_n 1, 1) := by decide +kernel
theorem dX3_failAt_11 : decode cX3_failAt 11 = .ok (.ireturn, 1) := by decide +kernel
theorem dX3_hasFailedAt_0 : decode cX3_hasFailedAt 0 = .ok (.iload_n 1, 1) := by decide +kernel
theorem dX3_hasFailedAt_1 : decode cX3_hasFailedAt 1 = .ok (.aload_n 0, 1) := by decide +kernel
theorem dX3_hasFailedAt_2 : decode cX3_hasFailedAt 2 = .ok (.getfield 84, 3) := by decide +kernel
theorem dX3_hasFailedAt_5 : decode cX3_hasFailedAt 5 = .ok (.if_icmp .lt 15, 3) := by decide +kernel
theorem dX3_hasFailedAt_8 : decode cX3_hasFailedAt 8 = .ok (.iload_n 1, 1) := by decide +kernel
theorem dX3_hasFailedAt_9 : decode cX3_hasFailedAt 9 = .ok (.aload_n 0, 1) := by decide +kernel
theorem dX3_hasFailedAt_10 : decode cX3_hasFailedAt 10 = .ok (.getfield 87, 3) := by decide +kernel
theorem dX3_hasFailedAt_13 : decode cX3_hasFailedAt 13 = .ok (.if_icmp .ge 7, 3) := by decide +kernel
theorem dX3_hasFailedAt_16 : decode cX3_hasFailedAt 16 = .ok (.iconst 1, 1) := by decide +kernel
theorem dX3_hasFailedAt_17 : decode cX3_hasFailedAt 17 = .ok (.goto 4, 3) := by decide +kernel
theorem dX3_hasFailedAt_20 : decode cX3_hasFailedAt 20 = .ok (.iconst 0, 1) := by decide +kernel
theorem dX3_hasFailedAt_21 : decode cX3_hasFailedAt 21 = .ok (.ireturn, 1) := by decide +kernel
def amF (s t w : Int32) : Int32 := if 0 ≤ 7 * t - s * w then 7 * t - s * w else -(7 * t - s * w)
/-- the distance of four times to the i-th digit -/
def dsF (t0 t1 t2 t3 s : Int32) (i : Nat) : Int32 := amF s t0 (wdt (4 * i)) + amF s t1 (wdt (4 * i + 1)) + amF s t2 (wdt (4 * i + 2)) + amF s t3 (wdt (4 * i + 3))
/-- the nearest digit, its distance, whether another one is as near: of the first i digits -/
def nrF (d : Nat → Int32) (l0 q0 : Int32) : Nat → Int32 × Int32 × Int32
  | 0 => (-1, l0, q0)
  | i + 1 => if (nrF d l0 q0 i).1 = -1 ∨ d i < (nrF d l0 q0 i).2.1 then (nI i, d i, 0) else if d i = (nrF d l0 q0 i).2.1 then ((nrF d l0 q0 i).1, (nrF d l0 q0 i).2.1, 1) else nrF d l0 q0 i
theorem nrF_lt {d : Nat → Int32} {l0 q0 : Int32} {i : Nat} (h : (nrF d l0 q0 i).1 = -1 ∨ d i < (nrF d l0 q0 i).2.1) : nrF d l0 q0 (i + 1) = (nI i, d i, 0) := by
  rw [show nrF d l0 q0 (i + 1) = (if (nrF d l0 q0 i).1 = -1 ∨ d i < (nrF d l0 q0 i).2.1 then (nI i, d i, 0) else if d i = (nrF d l0 q0 i).2.1 then ((nrF d l0 q0 i).1, (nrF d l0 q0 i).2.1, 1) else nrF d l0 q0 i) from rfl, if_pos h]
theorem nrF_eq {d : Nat → Int32} {l0 q0 : Int32} {i : Nat} (h1 : ¬ (nrF d l0 q0 i).1 = -1) (h2 : ¬ d i < (nrF d l0 q0 i).2.1) (h : d i = (nrF d l0 q0 i).2.1) : nrF d l0 q0 (i + 1) = ((nrF d l0 q0 i).1, (nrF d l0 q0 i).2.1, 1) := by
  rw [show nrF d l0 q0 (i + 1) = (if (nrF d l0 q0 i).1 = -1 ∨ d i < (nrF d l0 q0 i).2.1 then (nI i, d i, 0) else if d i = (nrF d l0 q0 i).2.1 then ((nrF d l0 q0 i).1, (nrF d l0 q0 i).2.1, 1) else nrF d l0 q0 i) from rfl, if_neg (fun q => q.elim h1 h2), if_pos h]
theorem nrF_ge {d : Nat → Int32} {l0 q0 : Int32} {i : Nat} (h1 : ¬ (nrF d l0 q0 i).1 = -1) (h2 : ¬ d i < (nrF d l0 q0 i).2.1) (h : ¬ d i = (nrF d l0 q0 i).2.1) : nrF d l0 q0 (i + 1) = nrF d l0 q0 i := by
  rw [show nrF d l0 q0 (i + 1) = (if (nrF d l0 q0 i).1 = -1 ∨ d i < (nrF d l0 q0 i).2.1 then (nI i, d i, 0) else if d i = (nrF d l0 q0 i).2.1 then ((nrF d l0 q0 i).1, (nrF d l0 q0 i).2.1, 1) else nrF d l0 q0 i) from rfl, if_neg (fun q => q.elim h1 h2), if_neg h]
theorem tie_nar {x : Int32} (h : x = 0 ∨ x = 1) : narrow .boolean (.int x) = .int x := by
  rcases h with rfl | rfl <;> rfl
set_option maxHeartbeats 4000000 in
set_option maxRecDepth 100000 in
theorem c_amountOff (l : Launch) (D : va_G) (re : Nat) (rd : Nat) (nd : Int32) (rl : Nat) (ldi : Int32) (sot : Int32) (tie : Int32) (ff : Int32) (ft : Int32) (tq : Int32) (wq : Int32) (sz : Nat) : k_Mi (S := Unit) l D yX3_amountOff cX3_amountOff 4 (some .int) 0 0 0 0 [.ref re, .int tq, .int wq] [(re, .inr (3, [.ref rd, .int nd, .ref rl, .int ldi, .int sot, .int tie, .int ff, .int ft]))] [] (fun (r : Int32) (_ : Unit) => r = (amF sot tq wq)) (fun _ => [(re, .inr (3, [.ref rd, .int nd, .ref rl, .int ldi, .int sot, .int tie, .int ff, .int ft]))]) (fun _ => []) sz := by
  refine Met.ofW (cc := cX3_amountOff) (maxL := 4) (ret := (some .int)) (by decide) rfl ?_
  intro p e s m args below meth c s₁ B hml hv
  obtain ⟨rfl, hsz, hP, hK, hD0, hG⟩ := hv
  have hx := B.exec
  have hb := B.bytes
  have hr := B.returns
  have ht : ∀ v9 ∈ wsA, v9.before ([.ref re, .int tq, .int wq] : List Value).toArray s = true := fun v9 h9 => atoms_spec (ws := k_ws yX3_amountOff cX3_amountOff 4 (some .int)) B.pre v9 (List.mem_cons_of_mem _ h9)
  have hown : s.vm.findClass RX3 = some m.cls := findClass_of_methodNamed B.named
  have S0 : k_C p s m ([.ref re, .int tq, .int wq] : List Value).toArray c cX3_amountOff 4 RX3 := ⟨hx, hb, hml, hown, ht⟩
  have hlocks := B.notSynchronized
  subst hsz
  have hD := hD0.self (sz := s.heap.size)
  generalize hAe : va_A [(re, .inr (3, [.ref rd, .int nd, .ref rl, .int ldi, .int sot, .int tie, .int ff, .int ft]))] s.heap.size = A at hD hG ⊢
  have hA : ∀ q : Nat, s.heap.size ≤ q → A q := fun q h => by rw [← hAe]; exact Or.inr h
  have hS : va_S A s.heap s.heap [] := va_S.rf
  have hl := lv_entry ([.ref re, .int tq, .int wq]) (n := 4) (Nat.le_of_ble_eq_true rfl)
  rw [lg_entry_eq]
  generalize (lg_sl ([.ref re, .int tq, .int wq]) ++ List.replicate (4 - (lg_sl ([.ref re, .int tq, .int wq])).length) Slot.unset).toArray = ls at hl ⊢
  have hl : lv_has ls 4 [(0, .ref re), (1, .int tq), (2, .int wq)] := hl
  have hP : va_P D vwCl [(re, .inr (3, [.ref rd, .int nd, .ref rl, .int ldi, .int sot, .int tie, .int ff, .int ft]))] s.heap := hP
  refine lv_bipush (v := 7) hx hb dX3_amountOff_0 (by decide) ?_
  refine lv_iload_n hx hb dX3_amountOff_2 rfl (lv_at hl 1 rfl) ?_
  refine lv_imul hx hb dX3_amountOff_3 ?_
  refine k_nrm (y := (7 * tq)) (rfl) ?_
  refine lv_aload_n hx hb dX3_amountOff_4 rfl (lv_at hl 0 rfl) ?_
  refine va_get (D := D) (ci := 3) (v := .int sot) (C := RX3) (T := TX3) (N := 8) hx hb ht inA_X3 hown hK hP 0 rfl rfl 4 (by decide) (ht _ lf_X3_65) (fun _ h9 => h9) rfl dX3_amountOff_5 ?_
  refine lv_iload_n hx hb dX3_amountOff_8 rfl (lv_at hl 2 rfl) ?_
  refine lv_imul hx hb dX3_amountOff_9 ?_
  refine k_nrm (y := (sot * wq)) (rfl) ?_
  refine lv_isub hx hb dX3_amountOff_10 ?_
  refine k_nrm (y := (7 * tq - sot * wq)) (rfl) ?_
  refine lv_istore_n (lv' := [(3, .int (7 * tq - sot * wq)), (0, .ref re), (1, .int tq), (2, .int wq)]) hx hb dX3_amountOff_11 rfl hl (by decide) rfl (fun ls hl => ?_)
  refine lv_iload_n hx hb dX3_amountOff_12 rfl (lv_at hl 0 rfl) ?_
  refine lv_if_ge (tgt := 21) hx hb dX3_amountOff_13 (by decide) (fun c_1 => ?_) (fun c_1 => ?_)
  · have hc9 := c_1
    refine lv_iload_n hx hb dX3_amountOff_21 rfl (lv_at hl 0 rfl) ?_
    have hP9 : va_P D vwCl [(re, .inr (3, [.ref rd, .int nd, .ref rl, .int ldi, .int sot, .int tie, .int ff, .int ft]))] s.heap := hP.sub [0] rfl
    have hD9 : va_D A [(re, .inr (3, [.ref rd, .int nd, .ref rl, .int ldi, .int sot, .int tie, .int ff, .int ft]))] := hD.sub [0] (by decide) rfl
    have hK9 : va_K D vwCl [] s := hK.sub [] rfl
    exact W.iret (v := (7 * tq - sot * wq)) hx hb hr (fun t ht9 hW9 => ⟨⟨(7 * tq - sot * wq), (), rfl, by first | rfl | trivial | (simp only [amF, c_1, if_true, if_false, reduceIte, and_self]; done) | simp_all, ⟨by rw [ht9]; exact hP9, va_K.moved hW9.alike hK9, hD9⟩⟩, hS.F ht9⟩) hS.2.2 dX3_amountOff_22
  · have hc9 := c_1
    refine lv_iload_n hx hb dX3_amountOff_16 rfl (lv_at hl 0 rfl) ?_
    refine lv_ineg hx hb dX3_amountOff_17 ?_
    refine k_nrm (y := (-(7 * tq - sot * wq))) (rfl) ?_
    refine lv_goto (tgt := 22) hx hb dX3_amountOff_18 (by decide) ?_
    have hP9 : va_P D vwCl [(re, .inr (3, [.ref rd, .int nd, .ref rl, .int ldi, .int sot, .int tie, .int ff, .int ft]))] s.heap := hP.sub [0] rfl
    have hD9 : va_D A [(re, .inr (3, [.ref rd, .int nd, .ref rl, .int ldi, .int sot, .int tie, .int ff, .int ft]))] := hD.sub [0] (by decide) rfl
    have hK9 : va_K D vwCl [] s := hK.sub [] rfl
    exact W.iret (v := (-(7 * tq - sot * wq))) hx hb hr (fun t ht9 hW9 => ⟨⟨(-(7 * tq - sot * wq)), (), rfl, by first | rfl | trivial | (simp only [amF, c_1, if_true, if_false, reduceIte, and_self]; done) | simp_all, ⟨by rw [ht9]; exact hP9, va_K.moved hW9.alike hK9, hD9⟩⟩, hS.F ht9⟩) hS.2.2 dX3_amountOff_22
set_option maxHeartbeats 4000000 in
set_option maxRecDepth 100000 in
theorem c_failAt (l : Launch) (D : va_G) (re : Nat) (rd : Nat) (nd : Int32) (rl : Nat) (ldi : Int32) (sot : Int32) (tie : Int32) (ff : Int32) (ft : Int32) (v : Int32) (v1 : Int32) (v2 : Int32) (sz : Nat) : k_Mi (S := Unit) l D yX3_failAt cX3_failAt 4 (some .int) 0 0 0 0 [.ref re, .int v, .int v1, .int v2] [(re, .inr (3, [.ref rd, .int nd, .ref rl, .int ldi, .int sot, .int tie, .int ff, .int ft]))] [] (fun (r : Int32) (_ : Unit) => r = v) (fun _ => [(re, .inr (3, [.ref rd, .int nd, .ref rl, .int ldi, .int sot, .int tie, .int v1, .int v2]))]) (fun _ => []) sz := by
  refine Met.ofW (cc := cX3_failAt) (maxL := 4) (ret := (some .int)) (by decide) rfl ?_
  intro p e s m args below meth c s₁ B hml hv
  obtain ⟨rfl, hsz, hP, hK, hD0, hG⟩ := hv
  have hx := B.exec
  have hb := B.bytes
  have hr := B.returns
  have ht : ∀ v9 ∈ wsA, v9.before ([.ref re, .int v, .int v1, .int v2] : List Value).toArray s = true := fun v9 h9 => atoms_spec (ws := k_ws yX3_failAt cX3_failAt 4 (some .int)) B.pre v9 (List.mem_cons_of_mem _ h9)
  have hown : s.vm.findClass RX3 = some m.cls := findClass_of_methodNamed B.named
  have S0 : k_C p s m ([.ref re, .int v, .int v1, .int v2] : List Value).toArray c cX3_failAt 4 RX3 := ⟨hx, hb, hml, hown, ht⟩
  have hlocks := B.notSynchronized
  subst hsz
  have hD := hD0.self (sz := s.heap.size)
  generalize hAe : va_A [(re, .inr (3, [.ref rd, .int nd, .ref rl, .int ldi, .int sot, .int tie, .int ff, .int ft]))] s.heap.size = A at hD hG ⊢
  have hA : ∀ q : Nat, s.heap.size ≤ q → A q := fun q h => by rw [← hAe]; exact Or.inr h
  have hS : va_S A s.heap s.heap [] := va_S.rf
  have hl := lv_entry ([.ref re, .int v, .int v1, .int v2]) (n := 4) (Nat.le_of_ble_eq_true rfl)
  rw [lg_entry_eq]
  generalize (lg_sl ([.ref re, .int v, .int v1, .int v2]) ++ List.replicate (4 - (lg_sl ([.ref re, .int v, .int v1, .int v2])).length) Slot.unset).toArray = ls at hl ⊢
  have hl : lv_has ls 4 [(0, .ref re), (1, .int v), (2, .int v1), (3, .int v2)] := hl
  have hP : va_P D vwCl [(re, .inr (3, [.ref rd, .int nd, .ref rl, .int ldi, .int sot, .int tie, .int ff, .int ft]))] s.heap := hP
  refine lv_aload_n hx hb dX3_failAt_0 rfl (lv_at hl 0 rfl) ?_
  refine lv_iload_n hx hb dX3_failAt_1 rfl (lv_at hl 2 rfl) ?_
  refine va_put (D := D) (ci := 3) (v := .int v1) (ty := .int) (C := RX3) (T := TX3) (N := 8) hx hb ht inA_X3 tyX3 tyX3_ok nmX3 hown hK hP hD hS 0 rfl rfl 6 (by decide) (ht _ lf_X3_84) (fun _ h9 => h9) rfl (tyX3_ok 6 (by decide)) rfl rfl (Nat.le_of_ble_eq_true rfl) dX3_failAt_2 (fun H locs hP hD hS => ?_)
  have hP : va_P D vwCl [(re, .inr (3, [.ref rd, .int nd, .ref rl, .int ldi, .int sot, .int tie, .int v1, .int ft]))] H := hP
  have hD : va_D A [(re, .inr (3, [.ref rd, .int nd, .ref rl, .int ldi, .int sot, .int tie, .int v1, .int ft]))] := hD
  refine lv_aload_n hx hb dX3_failAt_5 rfl (lv_at hl 0 rfl) ?_
  refine lv_iload_n hx hb dX3_failAt_6 rfl (lv_at hl 3 rfl) ?_
  refine va_put (D := D) (ci := 3) (v := .int v2) (ty := .int) (C := RX3) (T := TX3) (N := 8) hx hb ht inA_X3 tyX3 tyX3_ok nmX3 hown hK hP hD hS 0 rfl rfl 7 (by decide) (ht _ lf_X3_87) (fun _ h9 => h9) rfl (tyX3_ok 7 (by decide)) rfl rfl (Nat.le_of_ble_eq_true rfl) dX3_failAt_7 (fun H locs hP hD hS => ?_)
  have hP : va_P D vwCl [(re, .inr (3, [.ref rd, .int nd, .ref rl, .int ldi, .int sot, .int tie, .int v1, .int v2]))] H := hP
  have hD : va_D A [(re, .inr (3, [.ref rd, .int nd, .ref rl, .int ldi, .int sot, .int tie, .int v1, .int v2]))] := hD
  refine lv_iload_n hx hb dX3_failAt_10 rfl (lv_at hl 1 rfl) ?_
  have hP9 : va_P D vwCl [(re, .inr (3, [.ref rd, .int nd, .ref rl, .int ldi, .int sot, .int tie, .int v1, .int v2]))] H := hP.sub [0] rfl
  have hD9 : va_D A [(re, .inr (3, [.ref rd, .int nd, .ref rl, .int ldi, .int sot, .int tie, .int v1, .int v2]))] := hD.sub [0] (by decide) rfl
  have hK9 : va_K D vwCl [] s := hK.sub [] rfl
  exact W.iret (v := v) hx hb hr (fun t ht9 hW9 => ⟨⟨v, (), rfl, by first | rfl | trivial | (simp only [if_true, if_false, reduceIte, and_self]; done) | simp_all, ⟨by rw [ht9]; exact hP9, va_K.moved hW9.alike hK9, hD9⟩⟩, hS.F ht9⟩) hS.2.2 dX3_failAt_11
set_option maxHeartbeats 4000000 in
set_option maxRecDepth 100000 in
theorem c_hasFailedAt (l : Launch) (D : va_G) (re : Nat) (rd : Nat) (nd : Int32) (rl : Nat) (ldi : Int32) (sot : Int32) (tie : Int32) (ff : Int32) (ft : Int32) (x : Int32) (sz : Nat) : k_Mi (S := Unit) l D yX3_hasFailedAt cX3_hasFailedAt 2 (some .boolean) 0 0 0 0 [.ref re, .int x] [(re, .inr (3, [.ref rd, .int nd, .ref rl, .int ldi, .int sot, .int tie, .int ff, .int ft]))] [] (fun (r : Int32) (_ : Unit) => r = (if x < ff then 0 else if ft ≤ x then 0 else 1)) (fun _ => [(re, .inr (3, [.ref rd, .int nd, .ref rl, .int ldi, .int sot, .int tie, .int ff, .int ft]))]) (fun _ => []) sz := by
  refine Met.ofW (cc := cX3_hasFailedAt) (maxL := 2) (ret := (some .boolean)) (by decide) rfl ?_
  intro p e s m args below meth c s₁ B hml hv
  obtain ⟨rfl, hsz, hP, hK, hD0, hG⟩ := hv
  have hx := B.exec
  have hb := B.bytes
  have hr := B.returns
  have ht : ∀ v9 ∈ wsA, v9.before ([.ref re, .int x] : List Value).toArray s = true := fun v9 h9 => atoms_spec (ws := k_ws yX3_hasFailedAt cX3_hasFailedAt 2 (some .boolean)) B.pre v9 (List.mem_cons_of_mem _ h9)
  have hown : s.vm.findClass RX3 = some m.cls := findClass_of_methodNamed B.named
  have S0 : k_C p s m ([.ref re, .int x] : List Value).toArray c cX3_hasFailedAt 2 RX3 := ⟨hx, hb, hml, hown, ht⟩
  have hlocks := B.notSynchronized
  subst hsz
  have hD := hD0.self (sz := s.heap.size)
  generalize hAe : va_A [(re, .inr (3, [.ref rd, .int nd, .ref rl, .int ldi, .int sot, .int tie, .int ff, .int ft]))] s.heap.size = A at hD hG ⊢
  have hA : ∀ q : Nat, s.heap.size ≤ q → A q := fun q h => by rw [← hAe]; exact Or.inr h
  have hS : va_S A s.heap s.heap [] := va_S.rf
  have hl := lv_entry ([.ref re, .int x]) (n := 2) (Nat.le_of_ble_eq_true rfl)
  rw [lg_entry_eq]
  generalize (lg_sl ([.ref re, .int x]) ++ List.replicate (2 - (lg_sl ([.ref re, .int x])).length) Slot.unset).toArray = ls at hl ⊢
  have hl : lv_has ls 2 [(0, .ref re), (1, .int x)] := hl
  have hP : va_P D vwCl [(re, .inr (3, [.ref rd, .int nd, .ref rl, .int ldi, .int sot, .int tie, .int ff, .int ft]))] s.heap := hP
  refine lv_iload_n hx hb dX3_hasFailedAt_0 rfl (lv_at hl 1 rfl) ?_
  refine lv_aload_n hx hb dX3_hasFailedAt_1 rfl (lv_at hl 0 rfl) ?_
  refine va_get (D := D) (ci := 3) (v := .int ff) (C := RX3) (T := TX3) (N := 8) hx hb ht inA_X3 hown hK hP 0 rfl rfl 6 (by decide) (ht _ lf_X3_84) (fun _ h9 => h9) rfl dX3_hasFailedAt_2 ?_
  refine lv_icmp_lt (tgt := 20) hx hb dX3_hasFailedAt_5 (by decide) (fun c_1 => ?_) (fun c_1 => ?_)
  · have hc9 := c_1
    refine lv_iconst (v := 0) hx hb dX3_hasFailedAt_20 (by decide) ?_
    have hP9 : va_P D vwCl [(re, .inr (3, [.ref rd, .int nd, .ref rl, .int ldi, .int sot, .int tie, .int ff, .int ft]))] s.heap := hP.sub [0] rfl
    have hD9 : va_D A [(re, .inr (3, [.ref rd, .int nd, .ref rl, .int ldi, .int sot, .int tie, .int ff, .int ft]))] := hD.sub [0] (by decide) rfl
    have hK9 : va_K D vwCl [] s := hK.sub [] rfl
    exact W.zret (v := 0) hx hb hr (rfl) (fun t ht9 hW9 => ⟨⟨0, (), rfl, by first | rfl | trivial | (simp only [c_1, if_true, if_false, reduceIte, and_self]; done) | simp_all, ⟨by rw [ht9]; exact hP9, va_K.moved hW9.alike hK9, hD9⟩⟩, hS.F ht9⟩) hS.2.2 dX3_hasFailedAt_21
  · have hc9 := c_1
    refine lv_iload_n hx hb dX3_hasFailedAt_8 rfl (lv_at hl 1 rfl) ?_
    refine lv_aload_n hx hb dX3_hasFailedAt_9 rfl (lv_at hl 0 rfl) ?_
    refine va_get (D := D) (ci := 3) (v := .int ft) (C := RX3) (T := TX3) (N := 8) hx hb ht inA_X3 hown hK hP 0 rfl rfl 7 (by decide) (ht _ lf_X3_87) (fun _ h9 => h9) rfl dX3_hasFailedAt_10 ?_
    refine lv_icmp_ge (tgt := 20) hx hb dX3_hasFailedAt_13 (by decide) (fun c_2 => ?_) (fun c_2 => ?_)
    · have hc9 := c_2
      refine lv_iconst (v := 0) hx hb dX3_hasFailedAt_20 (by decide) ?_
      have hP9 : va_P D vwCl [(re, .inr (3, [.ref rd, .int nd, .ref rl, .int ldi, .int sot, .int tie, .int ff, .int ft]))] s.heap := hP.sub [0] rfl
      have hD9 : va_D A [(re, .inr (3, [.ref rd, .int nd, .ref rl, .int ldi, .int sot, .int tie, .int ff, .int ft]))] := hD.sub [0] (by decide) rfl
      have hK9 : va_K D vwCl [] s := hK.sub [] rfl
      exact W.zret (v := 0) hx hb hr (rfl) (fun t ht9 hW9 => ⟨⟨0, (), rfl, by first | rfl | trivial | (simp only [c_1, c_2, if_true, if_false, reduceIte, and_self]; done) | simp_all, ⟨by rw [ht9]; exact hP9, va_K.moved hW9.alike hK9, hD9⟩⟩, hS.F ht9⟩) hS.2.2 dX3_hasFailedAt_21
    · have hc9 := c_2
      refine lv_iconst (v := 1) hx hb dX3_hasFailedAt_16 (by decide) ?_
      refine lv_goto (tgt := 21) hx hb dX3_hasFailedAt_17 (by decide) ?_
      have hP9 : va_P D vwCl [(re, .inr (3, [.ref rd, .int nd, .ref rl, .int ldi, .int sot, .int tie, .int ff, .int ft]))] s.heap := hP.sub [0] rfl
      have hD9 : va_D A [(re, .inr (3, [.ref rd, .int nd, .ref rl, .int ldi, .int sot, .int tie, .int ff, .int ft]))] := hD.sub [0] (by decide) rfl
      have hK9 : va_K D vwCl [] s := hK.sub [] rfl
      exact W.zret (v := 1) hx hb hr (rfl) (fun t ht9 hW9 => ⟨⟨1, (), rfl, by first | rfl | trivial | (simp only [c_1, c_2, if_true, if_false, reduceIte, and_self]; done) | simp_all, ⟨by rw [ht9]; exact hP9, va_K.moved hW9.alike hK9, hD9⟩⟩, hS.F ht9⟩) hS.2.2 dX3_hasFailedAt_21
