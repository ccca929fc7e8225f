theorem li_BarcodeWand_Row : Cond.initialized "BarcodeWand$Row" ∈ wsA := mA 4 rfl rfl
theorem lk_X4_clear : Cond.code yX4_clear cX4_clear 1 none ∈ wsA := mA 257 rfl rfl
theorem ly_X4_clear : k_y yX4_clear 0 := ⟨by decide +kernel, by decide +kernel, by decide +kernel⟩
theorem lm_X4_clear : Cond.instanceMethod yX4_clear ∈ wsA := mA 255 rfl rfl
theorem le_X4_clear : Cond.selects (yX4_clear).cls yX4_clear yX4_clear ∈ wsA := mA 256 rfl rfl
theorem Lv_X4_23 : k_LV RX4 23 yX4_clear cX4_clear 1 none 0 := ⟨mA 254 rfl rfl, lm_X4_clear, le_X4_clear, li_BarcodeWand_Row, lk_X4_clear, ly_X4_clear⟩
theorem lk_X4_add : Cond.code yX4_add cX4_add 2 none ∈ wsA := mA 265 rfl rfl
theorem ly_X4_add : k_y yX4_add 1 := ⟨by decide +kernel, by decide +kernel, by decide +kernel⟩
theorem lm_X4_add : Cond.instanceMethod yX4_add ∈ wsA := mA 263 rfl rfl
theorem le_X4_add : Cond.selects (yX4_add).cls yX4_add yX4_add ∈ wsA := mA 264 rfl rfl
theorem Lv_X4_26 : k_LV RX4 26 yX4_add cX4_add 2 none 1 := ⟨mA 262 rfl rfl, lm_X4_add, le_X4_add, li_BarcodeWand_Row, lk_X4_add, ly_X4_add⟩
theorem dX4_put_0 : decode cX4_put 0 = .ok (.iload_n 1, 1) := by decide +kernel
theorem dX4_put_1 : decode cX4_put 1 = .ok (.ifCond .lt 27, 3) := by decide +kernel
theorem dX4_put_4 : decode cX4_put 4 = .ok (.iload_n 1, 1) := by decide +kernel
theorem dX4_put_5 : decode cX4_put 5 = .ok (.aload_n 0, 1) := by decide +kernel
theorem dX4_put_6 : decode cX4_put 6 = .ok (.getfield 19, 3) := by decide +kernel
theorem dX4_put_9 : decode cX4_put 9 = .ok (.if_icmp .ge 19, 3) := by decide +kernel
theorem dX4_put_12 : decode cX4_put 12 = .ok (.iload_n 1, 1) := by decide +kernel
theorem dX4_put_13 : decode cX4_put 13 = .ok (.aload_n 0, 1) := by decide +kernel
theorem dX4_put_14 : decode cX4_put 14 = .ok (.getfield 13, 3) := by decide +kernel
theorem dX4_put_17 : decode cX4_put 17 = .ok (.arraylength, 1) := by decide +kernel
theorem dX4_put_18 : decode cX4_put 18 = .ok (.if_icmp .ge 10, 3) := by decide +kernel
theorem dX4_put_21 : decode cX4_put 21 = .ok (.aload_n 0, 1) := by decide +kernel
theorem dX4_put_22 : decode cX4_put 22 = .ok (.getfield 13, 3) := by decide +kernel
theorem dX4_put_25 : decode cX4_put 25 = .ok (.iload_n 1, 1) := by decide +kernel
theorem dX4_put_26 : decode cX4_put 26 = .ok (.iload_n 2, 1) := by decide +kernel
theorem dX4_put_27 : decode cX4_put 27 = .ok (.iastore, 1) := by decide +kernel
theorem dX4_put_28 : decode cX4_put 28 = .ok (.return_, 1) := by decide +kernel
theorem dX4_add_0 : decode cX4_add 0 = .ok (.aload_n 0, 1) := by decide +kernel
theorem dX4_add_1 : decode cX4_add 1 = .ok (.getfield 19, 3) := by decide +kernel
theorem dX4_add_4 : decode cX4_add 4 = .ok (.ifCond .lt 35, 3) := by decide +kernel
theorem dX4_add_7 : decode cX4_add 7 = .ok (.aload_n 0, 1) := by decide +kernel
theorem dX4_add_8 : decode cX4_add 8 = .ok (.getfield 19, 3) := by decide +kernel
theorem dX4_add_11 : decode cX4_add 11 = .ok (.aload_n 0, 1) := by decide +kernel
theorem dX4_add_12 : decode cX4_add 12 = .ok (.getfield 13, 3) := by decide +kernel
theorem dX4_add_15 : decode cX4_add 15 = .ok (.arraylength, 1) := by decide +kernel
theorem dX4_add_16 : decode cX4_add 16 = .ok (.if_icmp .ge 23, 3) := by decide +kernel
theorem dX4_add_19 : decode cX4_add 19 = .ok (.aload_n 0, 1) := by decide +kernel
theorem dX4_add_20 : decode cX4_add 20 = .ok (.getfield 13, 3) := by decide +kernel
theorem dX4_add_23 : decode cX4_add 23 = .ok (.aload_n 0, 1) := by decide +kernel
theorem dX4_add_24 : decode cX4_add 24 = .ok (.getfield 19, 3) := by decide +kernel
theorem dX4_add_27 : decode cX4_add 27 = .ok (.iload_n 1, 1) := by decide +kernel
theorem dX4_add_28 : decode cX4_add 28 = .ok (.iastore, 1) := by decide +kernel
theorem dX4_add_29 : decode cX4_add 29 = .ok (.aload_n 0, 1) := by decide +kernel
theorem dX4_add_30 : decode cX4_add 30 = .ok (.dup, 1) := by decide +kernel
theorem dX4_add_31 : decode cX4_add 31 = .ok (.getfield 19, 3) := by decide +kernel
theorem dX4_add_34 : decode cX4_add 34 = .ok (.iconst 1, 1) := by decide +kernel
theorem dX4_add_35 : decode cX4_add 35 = .ok (.iadd, 1) := by decide +kernel
theorem dX4_add_36 : decode cX4_add 36 = .ok (.putfield 19, 3) := by decide +kernel
theorem dX4_add_39 : decode cX4_add 39 = .ok (.return_, 1) := by decide +kernel
theorem dX4_clear_0 : decode cX4_clear 0 = .ok (.aload_n 0, 1) := by decide +kernel
theorem dX4_clear_1 : decode cX4_clear 1 = .ok (.iconst 0, 1) := by decide +kernel
theorem dX4_clear_2 : decode cX4_clear 2 = .ok (.putfield 19, 3) := by decide +kernel
theorem dX4_clear_5 : decode cX4_clear 5 = .ok (.return_, 1) := by decide +kernel
theorem dX4_fillWithZeros_0 : decode cX4_fillWithZeros 0 = .ok (.aload_n 0, 1) := by decide +kernel
theorem dX4_fillWithZeros_1 : decode cX4_fillWithZeros 1 = .ok (.invokevirtual 23, 3) := by decide +kernel
theorem dX4_fillWithZeros_4 : decode cX4_fillWithZeros 4 = .ok (.iconst 0, 1) := by decide +kernel
theorem dX4_fillWithZeros_5 : decode cX4_fillWithZeros 5 = .ok (.istore_n 2, 1) := by decide +kernel
theorem dX4_fillWithZeros_6 : decode cX4_fillWithZeros 6 = .ok (.iload_n 2, 1) := by decide +kernel
theorem dX4_fillWithZeros_7 : decode cX4_fillWithZeros 7 = .ok (.iload_n 1, 1) := by decide +kernel
theorem dX4_fillWithZeros_8 : decode cX4_fillWithZeros 8 = .ok (.if_icmp .ge 14, 3) := by decide +kernel
theorem dX4_fillWithZeros_11 : decode cX4_fillWithZeros 11 = .ok (.aload_n 0, 1) := by decide +kernel
theorem dX4_fillWithZeros_12 : decode cX4_fillWithZeros 12 = .ok (.iconst 0, 1) := by decide +kernel
theorem dX4_fillWithZeros_13 : decode cX4_fillWithZeros 13 = .ok (.invokevirtual 26, 3) := by decide +kernel
theorem dX4_fillWithZeros_16 : decode cX4_fillWithZeros 16 = .ok (.iinc 2 1, 3) := by decide +kernel
theorem dX4_fillWithZeros_19 : decode cX4_fillWithZeros 19 = .ok (.goto (-13), 3) := by decide +kernel
theorem dX4_fillWithZeros_22 : decode cX4_fillWithZeros 22 = .ok (.return_, 1) := by decide +kernel
theorem dX4_copyFrom_0 : decode cX4_copyFrom 0 = .ok (.aload_n 0, 1) := by decide +kernel
theorem dX4_copyFrom_1 : decode cX4_copyFrom 1 = .ok (.invokevirtual 23, 3) := by decide +kernel
theorem dX4_copyFrom_4 : decode cX4_copyFrom 4 = .ok (.iconst 0, 1) := by decide +kernel
theorem dX4_copyFrom_5 : decode cX4_copyFrom 5 = .ok (.istore_n 2, 1) := by decide +kernel
theorem dX4_copyFrom_6 : decode cX4_copyFrom 6 = .ok (.iload_n 2, 1) := by decide +kernel
theorem dX4_copyFrom_7 : decode cX4_copyFrom 7 = .ok (.aload_n 1, 1) := by decide +kernel
theorem dX4_copyFrom_8 : decode cX4_copyFrom 8 = .ok (.getfield 19, 3) := by decide +kernel
theorem dX4_copyFrom_11 : decode cX4_copyFrom 11 = .ok (.if_icmp .ge 18, 3) := by decide +kernel
theorem dX4_copyFrom_14 : decode cX4_copyFrom 14 = .ok (.aload_n 0, 1) := by decide +kernel
theorem dX4_copyFrom_15 : decode cX4_copyFrom 15 = .ok (.aload_n 1, 1) := by decide +kernel
theorem dX4_copyFrom_16 : decode cX4_copyFrom 16 = .ok (.iload_n 2, 1) := by decide +kernel
theorem dX4_copyFrom_17 : decode cX4_copyFrom 17 = .ok (.invokevirtual 30, 3) := by decide +kernel
theorem dX4_copyFrom_20 : decode cX4_copyFrom 20 = .ok (.invokevirtual 26, 3) := by decide +kernel
theorem dX4_copyFrom_23 : decode cX4_copyFrom 23 = .ok (.iinc 2 1, 3) := by decide +kernel
theorem dX4_copyFrom_26 : decode cX4_copyFrom 26 = .ok (.goto (-20), 3) := by decide +kernel
theorem dX4_copyFrom_29 : decode cX4_copyFrom 29 = .ok (.return_, 1) := by decide +kernel
def rowPut (cap : Nat) (n : Int32) (f : Nat → Int32) (i v : Int32) : Nat → Int32 := if i < 0 then f else if n ≤ i then f else if nI cap ≤ i then f else upd f i.toNatClampNeg v
def rowLen (cap : Nat) (n : Int32) : Int32 := if n < 0 then n else if nI cap ≤ n then n else n + 1
def rowAdd (cap : Nat) (n : Int32) (f : Nat → Int32) (v : Int32) : Nat → Int32 := if n < 0 then f else if nI cap ≤ n then f else upd f n.toNatClampNeg v
theorem rowLen_lt {cap i : Nat} (h : i < cap) (hc : cap < 2 ^ 31) : rowLen cap (nI i) = nI (i + 1) := by
  unfold rowLen
  rw [if_neg (nI_pos (by omega)), if_neg (nI_ge h hc), nI_1]
theorem rowAdd_lt {cap i : Nat} {f : Nat → Int32} {v : Int32} (h : i < cap) (hc : cap < 2 ^ 31) : rowAdd cap (nI i) f v = upd f i v := by
  unfold rowAdd
  rw [if_neg (nI_pos (by omega)), if_neg (nI_ge h hc), nI_clamp (by omega)]
theorem rowAt_lt {cap i n : Nat} {f : Nat → Int32} (h : i < n) (h2 : n ≤ cap) (hc : cap < 2 ^ 31) : rowAt cap (nI n) f (nI i) = f i := by
  unfold rowAt
  rw [if_neg (nI_pos (by omega)), if_neg (nI_ge h (by omega)), if_neg (nI_ge (by omega) hc), nI_clamp (by omega)]
theorem rowPut_lt {cap i n : Nat} {f : Nat → Int32} {v : Int32} (h : i < n) (h2 : n ≤ cap) (hc : cap < 2 ^ 31) : rowPut cap (nI n) f (nI i) v = upd f i v := by
  unfold rowPut
  rw [if_neg (nI_pos (by omega)), if_neg (nI_ge h (by omega)), if_neg (nI_ge (by omega) hc), nI_clamp (by omega)]
def zf (f : Nat → Int32) (i : Nat) : Nat → Int32 := fun j => if j < i then 0 else f j
theorem zf_0 (f : Nat → Int32) : zf f 0 = f := rfl
theorem zf_s (f : Nat → Int32) (i : Nat) : upd (zf f i) i 0 = zf f (i + 1) := by
  funext j
  unfold upd zf
  by_cases h : j = i
  · subst h; simp
  · by_cases h2 : j < i
    · have h3 : j < i + 1 := by omega
      simp [h, h2, h3]
    · have h3 : ¬ j < i + 1 := by omega
      simp [h, h2, h3]
set_option maxHeartbeats 4000000 in
set_option maxRecDepth 100000 in
theorem c_Row_put (l : Launch) (D : va_G) (h : Nat) (a : Nat) (K : ClassId) (cap : Nat) (n : Int32) (f : Nat → Int32) (i : Int32) (v : Int32) (hcap : cap < 2 ^ 31) (sz : Nat) : k_Mv (S := Unit) l D yX4_put cX4_put 3 none 0 0 0 0 [.ref h, .int i, .int v] [(h, .inr (4, [.ref a, .int n])), (a, .inl (K, cap, .inl f))] [(K, .int)] (fun (_ : Unit) => True) (fun _ => [(h, .inr (4, [.ref a, .int n])), (a, .inl (K, cap, .inl (rowPut cap n f i v)))]) (fun _ => []) sz := by
  refine Met.ofW (cc := cX4_put) (maxL := 3) (ret := none) (by decide) rfl ?_
  intro p e s m args below meth c s₁ B hml hv
  obtain ⟨rfl, hsz, hP, hK, hD0, hG⟩ := hv
  have hx := B.exec
  have hb := B.bytes
  have hr := B.returns
  have ht : ∀ v9 ∈ wsA, v9.before ([.ref h, .int i, .int v] : List Value).toArray s = true := fun v9 h9 => atoms_spec (ws := k_ws yX4_put cX4_put 3 none) B.pre v9 (List.mem_cons_of_mem _ h9)
  have hown : s.vm.findClass RX4 = some m.cls := findClass_of_methodNamed B.named
  have S0 : k_C p s m ([.ref h, .int i, .int v] : List Value).toArray c cX4_put 3 RX4 := ⟨hx, hb, hml, hown, ht⟩
  have hlocks := B.notSynchronized
  subst hsz
  have hD := hD0.self (sz := s.heap.size)
  generalize hAe : va_A [(h, .inr (4, [.ref a, .int n])), (a, .inl (K, cap, .inl f))] s.heap.size = A at hD hG ⊢
  have hA : ∀ q : Nat, s.heap.size ≤ q → A q := fun q h => by rw [← hAe]; exact Or.inr h
  have hS : va_S A s.heap s.heap [] := va_S.rf
  have hl := lv_entry ([.ref h, .int i, .int v]) (n := 3) (Nat.le_of_ble_eq_true rfl)
  rw [lg_entry_eq]
  generalize (lg_sl ([.ref h, .int i, .int v]) ++ List.replicate (3 - (lg_sl ([.ref h, .int i, .int v])).length) Slot.unset).toArray = ls at hl ⊢
  have hl : lv_has ls 3 [(0, .ref h), (1, .int i), (2, .int v)] := hl
  have hP : va_P D vwCl [(h, .inr (4, [.ref a, .int n])), (a, .inl (K, cap, .inl f))] s.heap := hP
  refine lv_iload_n hx hb dX4_put_0 rfl (lv_at hl 1 rfl) ?_
  refine lv_if_lt (tgt := 28) hx hb dX4_put_1 (by decide) (fun c_1 => ?_) (fun c_1 => ?_)
  · have hc9 := c_1
    have hf_2 : f = (rowPut cap n f i v) := by first | rfl | (simp only [rowPut, c_1, if_true, if_false, reduceIte]; done)
    have hP : va_P D vwCl [(h, .inr (4, [.ref a, .int n])), (a, .inl (K, cap, .inl (rowPut cap n f i v)))] s.heap := by rw [← hf_2]; exact hP
    have hD : va_D A [(h, .inr (4, [.ref a, .int n])), (a, .inl (K, cap, .inl (rowPut cap n f i v)))] := by rw [← hf_2]; exact hD
    have hP9 : va_P D vwCl [(h, .inr (4, [.ref a, .int n])), (a, .inl (K, cap, .inl (rowPut cap n f i v)))] s.heap := hP.sub [0, 1] rfl
    have hD9 : va_D A [(h, .inr (4, [.ref a, .int n])), (a, .inl (K, cap, .inl (rowPut cap n f i v)))] := hD.sub [0, 1] (by decide) rfl
    have hK9 : va_K D vwCl [] s := hK.sub [] rfl
    exact W.vret hx hb hr (fun t ht9 hW9 => ⟨⟨(), rfl, by first | rfl | trivial | (simp only [rowPut, c_1, if_true, if_false, reduceIte, and_self]; done) | simp_all, ⟨by rw [ht9]; exact hP9, va_K.moved hW9.alike hK9, hD9⟩⟩, hS.F ht9⟩) hS.2.2 dX4_put_28
  · have hc9 := c_1
    refine lv_iload_n hx hb dX4_put_4 rfl (lv_at hl 1 rfl) ?_
    refine lv_aload_n hx hb dX4_put_5 rfl (lv_at hl 0 rfl) ?_
    refine va_get (D := D) (ci := 4) (v := .int n) (C := RX4) (T := TX4) (N := 2) hx hb ht inA_X4 hown hK hP 0 rfl rfl 1 (by decide) (ht _ lf_X4_19) (fun _ h9 => h9) rfl dX4_put_6 ?_
    refine lv_icmp_ge (tgt := 28) hx hb dX4_put_9 (by decide) (fun c_3 => ?_) (fun c_3 => ?_)
    · have hc9 := c_3
      have hf_4 : f = (rowPut cap n f i v) := by first | rfl | (simp only [rowPut, c_1, c_3, if_true, if_false, reduceIte]; done)
      have hP : va_P D vwCl [(h, .inr (4, [.ref a, .int n])), (a, .inl (K, cap, .inl (rowPut cap n f i v)))] s.heap := by rw [← hf_4]; exact hP
      have hD : va_D A [(h, .inr (4, [.ref a, .int n])), (a, .inl (K, cap, .inl (rowPut cap n f i v)))] := by rw [← hf_4]; exact hD
      have hP9 : va_P D vwCl [(h, .inr (4, [.ref a, .int n])), (a, .inl (K, cap, .inl (rowPut cap n f i v)))] s.heap := hP.sub [0, 1] rfl
      have hD9 : va_D A [(h, .inr (4, [.ref a, .int n])), (a, .inl (K, cap, .inl (rowPut cap n f i v)))] := hD.sub [0, 1] (by decide) rfl
      have hK9 : va_K D vwCl [] s := hK.sub [] rfl
      exact W.vret hx hb hr (fun t ht9 hW9 => ⟨⟨(), rfl, by first | rfl | trivial | (simp only [rowPut, c_1, c_3, if_true, if_false, reduceIte, and_self]; done) | simp_all, ⟨by rw [ht9]; exact hP9, va_K.moved hW9.alike hK9, hD9⟩⟩, hS.F ht9⟩) hS.2.2 dX4_put_28
    · have hc9 := c_3
      refine lv_iload_n hx hb dX4_put_12 rfl (lv_at hl 1 rfl) ?_
      refine lv_aload_n hx hb dX4_put_13 rfl (lv_at hl 0 rfl) ?_
      refine va_get (D := D) (ci := 4) (v := .ref a) (C := RX4) (T := TX4) (N := 2) hx hb ht inA_X4 hown hK hP 0 rfl rfl 0 (by decide) (ht _ lf_X4_13) (fun _ h9 => h9) rfl dX4_put_14 ?_
      refine va_alen (v := nI cap) hx hb hK hP 1 0 rfl rfl rfl dX4_put_17 ?_
      refine lv_icmp_ge (tgt := 28) hx hb dX4_put_18 (by decide) (fun c_5 => ?_) (fun c_5 => ?_)
      · have hc9 := c_5
        have hf_6 : f = (rowPut cap n f i v) := by first | rfl | (simp only [rowPut, c_1, c_3, c_5, if_true, if_false, reduceIte]; done)
        have hP : va_P D vwCl [(h, .inr (4, [.ref a, .int n])), (a, .inl (K, cap, .inl (rowPut cap n f i v)))] s.heap := by rw [← hf_6]; exact hP
        have hD : va_D A [(h, .inr (4, [.ref a, .int n])), (a, .inl (K, cap, .inl (rowPut cap n f i v)))] := by rw [← hf_6]; exact hD
        have hP9 : va_P D vwCl [(h, .inr (4, [.ref a, .int n])), (a, .inl (K, cap, .inl (rowPut cap n f i v)))] s.heap := hP.sub [0, 1] rfl
        have hD9 : va_D A [(h, .inr (4, [.ref a, .int n])), (a, .inl (K, cap, .inl (rowPut cap n f i v)))] := hD.sub [0, 1] (by decide) rfl
        have hK9 : va_K D vwCl [] s := hK.sub [] rfl
        exact W.vret hx hb hr (fun t ht9 hW9 => ⟨⟨(), rfl, by first | rfl | trivial | (simp only [rowPut, c_1, c_3, c_5, if_true, if_false, reduceIte, and_self]; done) | simp_all, ⟨by rw [ht9]; exact hP9, va_K.moved hW9.alike hK9, hD9⟩⟩, hS.F ht9⟩) hS.2.2 dX4_put_28
      · have hc9 := c_5
        refine lv_aload_n hx hb dX4_put_21 rfl (lv_at hl 0 rfl) ?_
        refine va_get (D := D) (ci := 4) (v := .ref a) (C := RX4) (T := TX4) (N := 2) hx hb ht inA_X4 hown hK hP 0 rfl rfl 0 (by decide) (ht _ lf_X4_13) (fun _ h9 => h9) rfl dX4_put_22 ?_
        refine lv_iload_n hx hb dX4_put_25 rfl (lv_at hl 1 rfl) ?_
        refine lv_iload_n hx hb dX4_put_26 rfl (lv_at hl 2 rfl) ?_
        refine va_iast hx hb hK hP hD hS 1 0 rfl rfl (vp_in_row hcap c_1 c_5) dX4_put_27 (fun H locs hP hD hS => ?_)
        have hP : va_P D vwCl [(h, .inr (4, [.ref a, .int n])), (a, .inl (K, cap, .inl (upd f i.toNatClampNeg v)))] H := hP
        have hD : va_D A [(h, .inr (4, [.ref a, .int n])), (a, .inl (K, cap, .inl (upd f i.toNatClampNeg v)))] := hD
        have hf_7 : upd f i.toNatClampNeg v = (rowPut cap n f i v) := by first | rfl | (simp only [rowPut, c_1, c_3, c_5, if_true, if_false, reduceIte]; done)
        have hP : va_P D vwCl [(h, .inr (4, [.ref a, .int n])), (a, .inl (K, cap, .inl (rowPut cap n f i v)))] H := by rw [← hf_7]; exact hP
        have hD : va_D A [(h, .inr (4, [.ref a, .int n])), (a, .inl (K, cap, .inl (rowPut cap n f i v)))] := by rw [← hf_7]; exact hD
        have hP9 : va_P D vwCl [(h, .inr (4, [.ref a, .int n])), (a, .inl (K, cap, .inl (rowPut cap n f i v)))] H := hP.sub [0, 1] rfl
        have hD9 : va_D A [(h, .inr (4, [.ref a, .int n])), (a, .inl (K, cap, .inl (rowPut cap n f i v)))] := hD.sub [0, 1] (by decide) rfl
        have hK9 : va_K D vwCl [] s := hK.sub [] rfl
        exact W.vret hx hb hr (fun t ht9 hW9 => ⟨⟨(), rfl, by first | rfl | trivial | (simp only [rowPut, c_1, c_3, c_5, if_true, if_false, reduceIte, and_self]; done) | simp_all, ⟨by rw [ht9]; exact hP9, va_K.moved hW9.alike hK9, hD9⟩⟩, hS.F ht9⟩) hS.2.2 dX4_put_28
set_option maxHeartbeats 4000000 in
set_option maxRecDepth 100000 in
theorem c_Row_add (l : Launch) (D : va_G) (h : Nat) (a : Nat) (K : ClassId) (cap : Nat) (n : Int32) (f : Nat → Int32) (v : Int32) (hcap : cap < 2 ^ 31) (sz : Nat) : k_Mv (S := Unit) l D yX4_add cX4_add 2 none 0 0 0 0 [.ref h, .int v] [(h, .inr (4, [.ref a, .int n])), (a, .inl (K, cap, .inl f))] [(K, .int)] (fun (_ : Unit) => True) (fun _ => [(h, .inr (4, [.ref a, .int (rowLen cap n)])), (a, .inl (K, cap, .inl (rowAdd cap n f v)))]) (fun _ => []) sz := by
  refine Met.ofW (cc := cX4_add) (maxL := 2) (ret := none) (by decide) rfl ?_
  intro p e s m args below meth c s₁ B hml hv
  obtain ⟨rfl, hsz, hP, hK, hD0, hG⟩ := hv
  have hx := B.exec
  have hb := B.bytes
  have hr := B.returns
  have ht : ∀ v9 ∈ wsA, v9.before ([.ref h, .int v] : List Value).toArray s = true := fun v9 h9 => atoms_spec (ws := k_ws yX4_add cX4_add 2 none) B.pre v9 (List.mem_cons_of_mem _ h9)
  have hown : s.vm.findClass RX4 = some m.cls := findClass_of_methodNamed B.named
  have S0 : k_C p s m ([.ref h, .int v] : List Value).toArray c cX4_add 2 RX4 := ⟨hx, hb, hml, hown, ht⟩
  have hlocks := B.notSynchronized
  subst hsz
  have hD := hD0.self (sz := s.heap.size)
  generalize hAe : va_A [(h, .inr (4, [.ref a, .int n])), (a, .inl (K, cap, .inl f))] s.heap.size = A at hD hG ⊢
  have hA : ∀ q : Nat, s.heap.size ≤ q → A q := fun q h => by rw [← hAe]; exact Or.inr h
  have hS : va_S A s.heap s.heap [] := va_S.rf
  have hl := lv_entry ([.ref h, .int v]) (n := 2) (Nat.le_of_ble_eq_true rfl)
  rw [lg_entry_eq]
  generalize (lg_sl ([.ref h, .int v]) ++ List.replicate (2 - (lg_sl ([.ref h, .int v])).length) Slot.unset).toArray = ls at hl ⊢
  have hl : lv_has ls 2 [(0, .ref h), (1, .int v)] := hl
  have hP : va_P D vwCl [(h, .inr (4, [.ref a, .int n])), (a, .inl (K, cap, .inl f))] s.heap := hP
  refine lv_aload_n hx hb dX4_add_0 rfl (lv_at hl 0 rfl) ?_
  refine va_get (D := D) (ci := 4) (v := .int n) (C := RX4) (T := TX4) (N := 2) hx hb ht inA_X4 hown hK hP 0 rfl rfl 1 (by decide) (ht _ lf_X4_19) (fun _ h9 => h9) rfl dX4_add_1 ?_
  refine lv_if_lt (tgt := 39) hx hb dX4_add_4 (by decide) (fun c_1 => ?_) (fun c_1 => ?_)
  · have hc9 := c_1
    have hf_2 : n = (rowLen cap n) := by first | rfl | (simp only [rowLen, rowAdd, c_1, if_true, if_false, reduceIte]; done)
    have hP : va_P D vwCl [(h, .inr (4, [.ref a, .int (rowLen cap n)])), (a, .inl (K, cap, .inl f))] s.heap := by rw [← hf_2]; exact hP
    have hD : va_D A [(h, .inr (4, [.ref a, .int (rowLen cap n)])), (a, .inl (K, cap, .inl f))] := by rw [← hf_2]; exact hD
    have hf_3 : f = (rowAdd cap n f v) := by first | rfl | (simp only [rowLen, rowAdd, c_1, if_true, if_false, reduceIte]; done)
    have hP : va_P D vwCl [(h, .inr (4, [.ref a, .int (rowLen cap n)])), (a, .inl (K, cap, .inl (rowAdd cap n f v)))] s.heap := by rw [← hf_3]; exact hP
    have hD : va_D A [(h, .inr (4, [.ref a, .int (rowLen cap n)])), (a, .inl (K, cap, .inl (rowAdd cap n f v)))] := by rw [← hf_3]; exact hD
    have hP9 : va_P D vwCl [(h, .inr (4, [.ref a, .int (rowLen cap n)])), (a, .inl (K, cap, .inl (rowAdd cap n f v)))] s.heap := hP.sub [0, 1] rfl
    have hD9 : va_D A [(h, .inr (4, [.ref a, .int (rowLen cap n)])), (a, .inl (K, cap, .inl (rowAdd cap n f v)))] := hD.sub [0, 1] (by decide) rfl
    have hK9 : va_K D vwCl [] s := hK.sub [] rfl
    exact W.vret hx hb hr (fun t ht9 hW9 => ⟨⟨(), rfl, by first | rfl | trivial | (simp only [rowLen, rowAdd, c_1, if_true, if_false, reduceIte, and_self]; done) | simp_all, ⟨by rw [ht9]; exact hP9, va_K.moved hW9.alike hK9, hD9⟩⟩, hS.F ht9⟩) hS.2.2 dX4_add_39
  · have hc9 := c_1
    refine lv_aload_n hx hb dX4_add_7 rfl (lv_at hl 0 rfl) ?_
    refine va_get (D := D) (ci := 4) (v := .int n) (C := RX4) (T := TX4) (N := 2) hx hb ht inA_X4 hown hK hP 0 rfl rfl 1 (by decide) (ht _ lf_X4_19) (fun _ h9 => h9) rfl dX4_add_8 ?_
    refine lv_aload_n hx hb dX4_add_11 rfl (lv_at hl 0 rfl) ?_
    refine va_get (D := D) (ci := 4) (v := .ref a) (C := RX4) (T := TX4) (N := 2) hx hb ht inA_X4 hown hK hP 0 rfl rfl 0 (by decide) (ht _ lf_X4_13) (fun _ h9 => h9) rfl dX4_add_12 ?_
    refine va_alen (v := nI cap) hx hb hK hP 1 0 rfl rfl rfl dX4_add_15 ?_
    refine lv_icmp_ge (tgt := 39) hx hb dX4_add_16 (by decide) (fun c_4 => ?_) (fun c_4 => ?_)
    · have hc9 := c_4
      have hf_5 : n = (rowLen cap n) := by first | rfl | (simp only [rowLen, rowAdd, c_1, c_4, if_true, if_false, reduceIte]; done)
      have hP : va_P D vwCl [(h, .inr (4, [.ref a, .int (rowLen cap n)])), (a, .inl (K, cap, .inl f))] s.heap := by rw [← hf_5]; exact hP
      have hD : va_D A [(h, .inr (4, [.ref a, .int (rowLen cap n)])), (a, .inl (K, cap, .inl f))] := by rw [← hf_5]; exact hD
      have hf_6 : f = (rowAdd cap n f v) := by first | rfl | (simp only [rowLen, rowAdd, c_1, c_4, if_true, if_false, reduceIte]; done)
      have hP : va_P D vwCl [(h, .inr (4, [.ref a, .int (rowLen cap n)])), (a, .inl (K, cap, .inl (rowAdd cap n f v)))] s.heap := by rw [← hf_6]; exact hP
      have hD : va_D A [(h, .inr (4, [.ref a, .int (rowLen cap n)])), (a, .inl (K, cap, .inl (rowAdd cap n f v)))] := by rw [← hf_6]; exact hD
      have hP9 : va_P D vwCl [(h, .inr (4, [.ref a, .int (rowLen cap n)])), (a, .inl (K, cap, .inl (rowAdd cap n f v)))] s.heap := hP.sub [0, 1] rfl
      have hD9 : va_D A [(h, .inr (4, [.ref a, .int (rowLen cap n)])), (a, .inl (K, cap, .inl (rowAdd cap n f v)))] := hD.sub [0, 1] (by decide) rfl
      have hK9 : va_K D vwCl [] s := hK.sub [] rfl
      exact W.vret hx hb hr (fun t ht9 hW9 => ⟨⟨(), rfl, by first | rfl | trivial | (simp only [rowLen, rowAdd, c_1, c_4, if_true, if_false, reduceIte, and_self]; done) | simp_all, ⟨by rw [ht9]; exact hP9, va_K.moved hW9.alike hK9, hD9⟩⟩, hS.F ht9⟩) hS.2.2 dX4_add_39
    · have hc9 := c_4
      refine lv_aload_n hx hb dX4_add_19 rfl (lv_at hl 0 rfl) ?_
      refine va_get (D := D) (ci := 4) (v := .ref a) (C := RX4) (T := TX4) (N := 2) hx hb ht inA_X4 hown hK hP 0 rfl rfl 0 (by decide) (ht _ lf_X4_13) (fun _ h9 => h9) rfl dX4_add_20 ?_
      refine lv_aload_n hx hb dX4_add_23 rfl (lv_at hl 0 rfl) ?_
      refine va_get (D := D) (ci := 4) (v := .int n) (C := RX4) (T := TX4) (N := 2) hx hb ht inA_X4 hown hK hP 0 rfl rfl 1 (by decide) (ht _ lf_X4_19) (fun _ h9 => h9) rfl dX4_add_24 ?_
      refine lv_iload_n hx hb dX4_add_27 rfl (lv_at hl 1 rfl) ?_
      refine va_iast hx hb hK hP hD hS 1 0 rfl rfl (vp_in_row hcap c_1 c_4) dX4_add_28 (fun H locs hP hD hS => ?_)
      have hP : va_P D vwCl [(h, .inr (4, [.ref a, .int n])), (a, .inl (K, cap, .inl (upd f n.toNatClampNeg v)))] H := hP
      have hD : va_D A [(h, .inr (4, [.ref a, .int n])), (a, .inl (K, cap, .inl (upd f n.toNatClampNeg v)))] := hD
      refine lv_aload_n hx hb dX4_add_29 rfl (lv_at hl 0 rfl) ?_
      refine lv_dup hx hb dX4_add_30 rfl ?_
      refine va_get (D := D) (ci := 4) (v := .int n) (C := RX4) (T := TX4) (N := 2) hx hb ht inA_X4 hown hK hP 0 rfl rfl 1 (by decide) (ht _ lf_X4_19) (fun _ h9 => h9) rfl dX4_add_31 ?_
      refine lv_iconst (v := 1) hx hb dX4_add_34 (by decide) ?_
      refine lv_iadd hx hb dX4_add_35 ?_
      refine lv_topi (fun x_7 ex_7 => ?_)
      refine va_put (D := D) (ci := 4) (v := .int x_7) (ty := .int) (C := RX4) (T := TX4) (N := 2) hx hb ht inA_X4 tyX4 tyX4_ok nmX4 hown hK hP hD hS 0 rfl rfl 1 (by decide) (ht _ lf_X4_19) (fun _ h9 => h9) rfl (tyX4_ok 1 (by decide)) rfl rfl (Nat.le_of_ble_eq_true rfl) dX4_add_36 (fun H locs hP hD hS => ?_)
      have hP : va_P D vwCl [(h, .inr (4, [.ref a, .int x_7])), (a, .inl (K, cap, .inl (upd f n.toNatClampNeg v)))] H := hP
      have hD : va_D A [(h, .inr (4, [.ref a, .int x_7])), (a, .inl (K, cap, .inl (upd f n.toNatClampNeg v)))] := hD
      have hf_8 : x_7 = (rowLen cap n) := by first | rfl | (simp only [rowLen, rowAdd, c_1, c_4, ex_7, if_true, if_false, reduceIte]; done)
      have hP : va_P D vwCl [(h, .inr (4, [.ref a, .int (rowLen cap n)])), (a, .inl (K, cap, .inl (upd f n.toNatClampNeg v)))] H := by rw [← hf_8]; exact hP
      have hD : va_D A [(h, .inr (4, [.ref a, .int (rowLen cap n)])), (a, .inl (K, cap, .inl (upd f n.toNatClampNeg v)))] := by rw [← hf_8]; exact hD
      have hf_9 : upd f n.toNatClampNeg v = (rowAdd cap n f v) := by first | rfl | (simp only [rowLen, rowAdd, c_1, c_4, ex_7, if_true, if_false, reduceIte]; done)
      have hP : va_P D vwCl [(h, .inr (4, [.ref a, .int (rowLen cap n)])), (a, .inl (K, cap, .inl (rowAdd cap n f v)))] H := by rw [← hf_9]; exact hP
      have hD : va_D A [(h, .inr (4, [.ref a, .int (rowLen cap n)])), (a, .inl (K, cap, .inl (rowAdd cap n f v)))] := by rw [← hf_9]; exact hD
      have hP9 : va_P D vwCl [(h, .inr (4, [.ref a, .int (rowLen cap n)])), (a, .inl (K, cap, .inl (rowAdd cap n f v)))] H := hP.sub [0, 1] rfl
      have hD9 : va_D A [(h, .inr (4, [.ref a, .int (rowLen cap n)])), (a, .inl (K, cap, .inl (rowAdd cap n f v)))] := hD.sub [0, 1] (by decide) rfl
      have hK9 : va_K D vwCl [] s := hK.sub [] rfl
      exact W.vret hx hb hr (fun t ht9 hW9 => ⟨⟨(), rfl, by first | rfl | trivial | (simp only [rowLen, rowAdd, c_1, c_4, ex_7, if_true, if_false, reduceIte, and_self]; done) | simp_all, ⟨by rw [ht9]; exact hP9, va_K.moved hW9.alike hK9, hD9⟩⟩, hS.F ht9⟩) hS.2.2 dX4_add_39
set_option maxHeartbeats 4000000 in
set_option maxRecDepth 100000 in
theorem c_Row_clear (l : Launch) (D : va_G) (h : Nat) (a : Nat) (n : Int32) (sz : Nat) : k_Mv (S := Unit) l D yX4_clear cX4_clear 1 none 0 0 0 0 [.ref h] [(h, .inr (4, [.ref a, .int n]))] [] (fun (_ : Unit) => True) (fun _ => [(h, .inr (4, [.ref a, .int 0]))]) (fun _ => []) sz := by
  refine Met.ofW (cc := cX4_clear) (maxL := 1) (ret := none) (by decide) rfl ?_
  intro p e s m args below meth c s₁ B hml hv
  obtain ⟨rfl, hsz, hP, hK, hD0, hG⟩ := hv
  have hx := B.exec
  have hb := B.bytes
  have hr := B.returns
  have ht : ∀ v9 ∈ wsA, v9.before ([.ref h] : List Value).toArray s = true := fun v9 h9 => atoms_spec (ws := k_ws yX4_clear cX4_clear 1 none) B.pre v9 (List.mem_cons_of_mem _ h9)
  have hown : s.vm.findClass RX4 = some m.cls := findClass_of_methodNamed B.named
  have S0 : k_C p s m ([.ref h] : List Value).toArray c cX4_clear 1 RX4 := ⟨hx, hb, hml, hown, ht⟩
  have hlocks := B.notSynchronized
  subst hsz
  have hD := hD0.self (sz := s.heap.size)
  generalize hAe : va_A [(h, .inr (4, [.ref a, .int n]))] s.heap.size = A at hD hG ⊢
  have hA : ∀ q : Nat, s.heap.size ≤ q → A q := fun q h => by rw [← hAe]; exact Or.inr h
  have hS : va_S A s.heap s.heap [] := va_S.rf
  have hl := lv_entry ([.ref h]) (n := 1) (Nat.le_of_ble_eq_true rfl)
  rw [lg_entry_eq]
  generalize (lg_sl ([.ref h]) ++ List.replicate (1 - (lg_sl ([.ref h])).length) Slot.unset).toArray = ls at hl ⊢
  have hl : lv_has ls 1 [(0, .ref h)] := hl
  have hP : va_P D vwCl [(h, .inr (4, [.ref a, .int n]))] s.heap := hP
  refine lv_aload_n hx hb dX4_clear_0 rfl (lv_at hl 0 rfl) ?_
  refine lv_iconst (v := 0) hx hb dX4_clear_1 (by decide) ?_
  refine va_put (D := D) (ci := 4) (v := .int 0) (ty := .int) (C := RX4) (T := TX4) (N := 2) hx hb ht inA_X4 tyX4 tyX4_ok nmX4 hown hK hP hD hS 0 rfl rfl 1 (by decide) (ht _ lf_X4_19) (fun _ h9 => h9) rfl (tyX4_ok 1 (by decide)) rfl rfl (Nat.le_of_ble_eq_true rfl) dX4_clear_2 (fun H locs hP hD hS => ?_)
  have hP : va_P D vwCl [(h, .inr (4, [.ref a, .int 0]))] H := hP
  have hD : va_D A [(h, .inr (4, [.ref a, .int 0]))] := hD
  have hP9 : va_P D vwCl [(h, .inr (4, [.ref a, .int 0]))] H := hP.sub [0] rfl
  have hD9 : va_D A [(h, .inr (4, [.ref a, .int 0]))] := hD.sub [0] (by decide) rfl
  have hK9 : va_K D vwCl [] s := hK.sub [] rfl
  exact W.vret hx hb hr (fun t ht9 hW9 => ⟨⟨(), rfl, by first | rfl | trivial | (simp only [if_true, if_false, reduceIte, and_self]; done) | simp_all, ⟨by rw [ht9]; exact hP9, va_K.moved hW9.alike hK9, hD9⟩⟩, hS.F ht9⟩) hS.2.2 dX4_clear_5
set_option maxHeartbeats 4000000 in
set_option maxRecDepth 100000 in
theorem c_Row_fill (l : Launch) (D : va_G) (h : Nat) (a : Nat) (K : ClassId) (cap : Nat) (n : Int32) (f : Nat → Int32) (z : Int32) (k : Nat) (hcap : cap < 2 ^ 31) (hz : z = nI k) (hk : k ≤ cap) (sz : Nat) : k_Mv (S := Unit) l D yX4_fillWithZeros cX4_fillWithZeros 3 none 1 0 0 21 [.ref h, .int z] [(h, .inr (4, [.ref a, .int n])), (a, .inl (K, cap, .inl f))] [(K, .int)] (fun (_ : Unit) => True) (fun _ => [(h, .inr (4, [.ref a, .int (nI k)])), (a, .inl (K, cap, .inl (zf f k)))]) (fun _ => []) sz := by
  refine Met.ofW (cc := cX4_fillWithZeros) (maxL := 3) (ret := none) (by decide) rfl ?_
  intro p e s m args below meth c s₁ B hml hv
  obtain ⟨rfl, hsz, hP, hK, hD0, hG⟩ := hv
  have hx := B.exec
  have hb := B.bytes
  have hr := B.returns
  have ht : ∀ v9 ∈ wsA, v9.before ([.ref h, .int z] : List Value).toArray s = true := fun v9 h9 => atoms_spec (ws := k_ws yX4_fillWithZeros cX4_fillWithZeros 3 none) B.pre v9 (List.mem_cons_of_mem _ h9)
  have hown : s.vm.findClass RX4 = some m.cls := findClass_of_methodNamed B.named
  have S0 : k_C p s m ([.ref h, .int z] : List Value).toArray c cX4_fillWithZeros 3 RX4 := ⟨hx, hb, hml, hown, ht⟩
  have hlocks := B.notSynchronized
  subst hsz
  have hD := hD0.self (sz := s.heap.size)
  generalize hAe : va_A [(h, .inr (4, [.ref a, .int n])), (a, .inl (K, cap, .inl f))] s.heap.size = A at hD hG ⊢
  have hA : ∀ q : Nat, s.heap.size ≤ q → A q := fun q h => by rw [← hAe]; exact Or.inr h
  have hS : va_S A s.heap s.heap [] := va_S.rf
  have hl := lv_entry ([.ref h, .int z]) (n := 3) (Nat.le_of_ble_eq_true rfl)
  rw [lg_entry_eq]
  generalize (lg_sl ([.ref h, .int z]) ++ List.replicate (3 - (lg_sl ([.ref h, .int z])).length) Slot.unset).toArray = ls at hl ⊢
  have hl : lv_has ls 3 [(0, .ref h), (1, .int z)] := hl
  have hP : va_P D vwCl [(h, .inr (4, [.ref a, .int n])), (a, .inl (K, cap, .inl f))] s.heap := hP
  refine lv_aload_n hx hb dX4_fillWithZeros_0 rfl (lv_at hl 0 rfl) ?_
  have ct := k_cut_of (wc := [(h, .inr (4, [.ref a, .int n]))]) (wr := [(a, .inl (K, cap, .inl f))]) (tc := []) hG hS hA hK hP hD [0] [1] [] rfl rfl (by decide) (by decide) (by decide) rfl
  refine k_endv (As := [.ref h]) ct (k_runV (As := []) (rest := []) S0 Lv_X4_23 rfl (ci := 4) (q0 := 0) rfl rfl ct (c_Row_clear l D h a n s.heap.size) hl.1 rfl (Nat.le_of_ble_eq_true rfl) rfl dX4_fillWithZeros_1 ⟨⟨Nat.le_of_ble_eq_true rfl, Nat.le_of_ble_eq_true rfl⟩, Nat.le_of_ble_eq_true rfl, Nat.le_of_ble_eq_true rfl⟩) rfl rfl (fun _ _ H locs hw_2 hP hD hK hS => ?_)
  have hK : va_K D vwCl [(K, .int)] s := hK
  have hP : va_P D vwCl [(a, .inl (K, cap, .inl f)), (h, .inr (4, [.ref a, .int 0]))] H := hP
  have hD : va_D A [(a, .inl (K, cap, .inl f)), (h, .inr (4, [.ref a, .int 0]))] := hD
  refine lv_iconst (v := 0) hx hb dX4_fillWithZeros_4 (by decide) ?_
  refine lv_istore_n (lv' := [(2, .int 0), (0, .ref h), (1, .int z)]) hx hb dX4_fillWithZeros_5 rfl hl (by decide) rfl (fun ls hl => ?_)
  have hf_3 : f = (zf f 0) := (zf_0 f).symm
  have hP : va_P D vwCl [(a, .inl (K, cap, .inl (zf f 0))), (h, .inr (4, [.ref a, .int 0]))] H := by rw [← hf_3]; exact hP
  have hD : va_D A [(a, .inl (K, cap, .inl (zf f 0))), (h, .inr (4, [.ref a, .int 0]))] := by rw [← hf_3]; exact hD
  have hf_4 : 0 = (nI 0) := rfl
  have hP : va_P D vwCl [(a, .inl (K, cap, .inl (zf f 0))), (h, .inr (4, [.ref a, .int (nI 0)]))] H := by rw [← hf_4]; exact hP
  have hD : va_D A [(a, .inl (K, cap, .inl (zf f 0))), (h, .inr (4, [.ref a, .int (nI 0)]))] := by rw [← hf_4]; exact hD
  have hl : lv_has ls 3 [(2, .int (nI 0)), (0, .ref h), (1, .int z)] := hl
  refine k_loop (ι := Nat) (fun (i : Nat) H9 locs9 ls9 => (i ≤ k) ∧ va_P D vwCl [(h, .inr (4, [.ref a, .int (nI i)])), (a, .inl (K, cap, .inl (zf f i)))] H9 ∧ va_D A [(h, .inr (4, [.ref a, .int (nI i)])), (a, .inl (K, cap, .inl (zf f i)))] ∧ va_S A s.heap H9 locs9 ∧ lv_has ls9 3 [(2, .int (nI i)), (0, .ref h), (1, .int z)]) (fun (i : Nat) => k - i) ?_ (0) ⟨(Nat.zero_le _), hP.sub [1, 0] rfl, hD.sub [1, 0] (by decide) rfl, hS, lv_sub hl [0, 1, 2] rfl⟩
  intro x9 H locs ls hF9 ih9
  obtain ⟨i, hv9⟩ : ∃ z, z = x9 := ⟨_, rfl⟩
  subst hv9
  obtain ⟨hi, hP, hD, hS, hl⟩ := hF9
  try dsimp only at ih9
  have hP : va_P D vwCl [(h, .inr (4, [.ref a, .int (nI i)])), (a, .inl (K, cap, .inl (zf f i)))] H := hP
  have hD : va_D A [(h, .inr (4, [.ref a, .int (nI i)])), (a, .inl (K, cap, .inl (zf f i)))] := hD
  have hl : lv_has ls 3 [(2, .int (nI i)), (0, .ref h), (1, .int z)] := hl
  refine lv_iload_n hx hb dX4_fillWithZeros_6 rfl (lv_at hl 0 rfl) ?_
  refine lv_iload_n hx hb dX4_fillWithZeros_7 rfl (lv_at hl 2 rfl) ?_
  refine lv_icmp_ge (tgt := 22) hx hb dX4_fillWithZeros_8 (by decide) (fun c_5 => ?_) (fun c_5 => ?_)
  · have hc9 := c_5
    obtain rfl : k = i := by rcases Nat.lt_or_ge i k with q9 | q9; exact absurd (by rw [hz] at c_5; exact c_5) (nI_ge q9 (by omega)); omega
    have hP9 : va_P D vwCl [(h, .inr (4, [.ref a, .int (nI k)])), (a, .inl (K, cap, .inl (zf f k)))] H := hP.sub [0, 1] rfl
    have hD9 : va_D A [(h, .inr (4, [.ref a, .int (nI k)])), (a, .inl (K, cap, .inl (zf f k)))] := hD.sub [0, 1] (by decide) rfl
    have hK9 : va_K D vwCl [] s := hK.sub [] rfl
    exact W.vret hx hb hr (fun t ht9 hW9 => ⟨⟨(), rfl, by first | rfl | trivial | (simp only [hi, c_5, if_true, if_false, reduceIte, and_self]; done) | simp_all, ⟨by rw [ht9]; exact hP9, va_K.moved hW9.alike hK9, hD9⟩⟩, hS.F ht9⟩) hS.2.2 dX4_fillWithZeros_22
  · have hc9 := c_5
    have hik : i + 1 ≤ k := by rcases Nat.lt_or_ge i k with q9 | q9; exact q9; exact absurd (by rw [hz]; exact nI_le q9 (by omega)) c_5
    refine lv_aload_n hx hb dX4_fillWithZeros_11 rfl (lv_at hl 1 rfl) ?_
    refine lv_iconst (v := 0) hx hb dX4_fillWithZeros_12 (by decide) ?_
    have ct := k_cut_of (wc := [(h, .inr (4, [.ref a, .int (nI i)])), (a, .inl (K, cap, .inl (zf f i)))]) (wr := []) (tc := [(K, .int)]) hG hS hA hK hP hD [0, 1] [] [0] rfl rfl (by decide) (by decide) (by decide) rfl
    refine k_endv (As := [.ref h, .int 0]) ct (k_runV (As := [.int 0]) (rest := []) S0 Lv_X4_26 rfl (ci := 4) (q0 := 0) rfl rfl ct (c_Row_add l D h a K cap (nI i) (zf f i) 0 (by first | assumption | decide) H.size) hl.1 rfl (Nat.le_of_ble_eq_true rfl) rfl dX4_fillWithZeros_13 ⟨⟨Nat.le_of_ble_eq_true rfl, Nat.le_of_ble_eq_true rfl⟩, Nat.le_of_ble_eq_true rfl, Nat.le_of_ble_eq_true rfl⟩) rfl rfl (fun _ _ H locs hw_7 hP hD hK hS => ?_)
    have hK : va_K D vwCl [(K, .int)] s := hK
    have hP : va_P D vwCl [(h, .inr (4, [.ref a, .int (rowLen cap (nI i))])), (a, .inl (K, cap, .inl (rowAdd cap (nI i) (zf f i) 0)))] H := hP
    have hD : va_D A [(h, .inr (4, [.ref a, .int (rowLen cap (nI i))])), (a, .inl (K, cap, .inl (rowAdd cap (nI i) (zf f i) 0)))] := hD
    have hf_8 : (rowLen cap (nI i)) = (nI (i + 1)) := rowLen_lt (by omega) hcap
    have hP : va_P D vwCl [(h, .inr (4, [.ref a, .int (nI (i + 1))])), (a, .inl (K, cap, .inl (rowAdd cap (nI i) (zf f i) 0)))] H := by rw [← hf_8]; exact hP
    have hD : va_D A [(h, .inr (4, [.ref a, .int (nI (i + 1))])), (a, .inl (K, cap, .inl (rowAdd cap (nI i) (zf f i) 0)))] := by rw [← hf_8]; exact hD
    have hf_9 : (rowAdd cap (nI i) (zf f i) 0) = (zf f (i + 1)) := (rowAdd_lt (by omega) hcap).trans (zf_s f i)
    have hP : va_P D vwCl [(h, .inr (4, [.ref a, .int (nI (i + 1))])), (a, .inl (K, cap, .inl (zf f (i + 1))))] H := by rw [← hf_9]; exact hP
    have hD : va_D A [(h, .inr (4, [.ref a, .int (nI (i + 1))])), (a, .inl (K, cap, .inl (zf f (i + 1))))] := by rw [← hf_9]; exact hD
    obtain ⟨x_10, ex_10⟩ : ∃ z : Int32, z = (nI i) + 1 := ⟨_, rfl⟩
    refine lv_iinc (v := x_10) (lv' := [(2, .int x_10), (0, .ref h), (1, .int z)]) hx hb dX4_fillWithZeros_16 hl (k := 0) rfl (by rw [ex_10]; rfl) (by decide) rfl (fun ls hl => ?_)
    refine lv_goto (tgt := 6) hx hb dX4_fillWithZeros_19 (by decide) ?_
    have he9 : x_10 = nI (i + 1) := by rw [ex_10]; exact nI_1 i
    rw [he9] at hl
    exact ih9 (i + 1) H locs ls (by omega) ⟨hik, hP.sub [0, 1] rfl, hD.sub [0, 1] (by decide) rfl, hS, lv_sub hl [0, 1, 2] rfl⟩
set_option maxHeartbeats 4000000 in
set_option maxRecDepth 100000 in
theorem c_Row_copy0 (l : Launch) (D : va_G) (h : Nat) (a : Nat) (n : Int32) (h2 : Nat) (a2 : Nat) (sz : Nat) : k_Mv (S := Unit) l D yX4_copyFrom cX4_copyFrom 3 none 1 0 0 20 [.ref h, .ref h2] [(h, .inr (4, [.ref a, .int n])), (h2, .inr (4, [.ref a2, .int 0]))] [] (fun (_ : Unit) => True) (fun _ => [(h, .inr (4, [.ref a, .int 0])), (h2, .inr (4, [.ref a2, .int 0]))]) (fun _ => []) sz := by
  refine Met.ofW (cc := cX4_copyFrom) (maxL := 3) (ret := none) (by decide) rfl ?_
  intro p e s m args below meth c s₁ B hml hv
  obtain ⟨rfl, hsz, hP, hK, hD0, hG⟩ := hv
  have hx := B.exec
  have hb := B.bytes
  have hr := B.returns
  have ht : ∀ v9 ∈ wsA, v9.before ([.ref h, .ref h2] : List Value).toArray s = true := fun v9 h9 => atoms_spec (ws := k_ws yX4_copyFrom cX4_copyFrom 3 none) B.pre v9 (List.mem_cons_of_mem _ h9)
  have hown : s.vm.findClass RX4 = some m.cls := findClass_of_methodNamed B.named
  have S0 : k_C p s m ([.ref h, .ref h2] : List Value).toArray c cX4_copyFrom 3 RX4 := ⟨hx, hb, hml, hown, ht⟩
  have hlocks := B.notSynchronized
  subst hsz
  have hD := hD0.self (sz := s.heap.size)
  generalize hAe : va_A [(h, .inr (4, [.ref a, .int n])), (h2, .inr (4, [.ref a2, .int 0]))] s.heap.size = A at hD hG ⊢
  have hA : ∀ q : Nat, s.heap.size ≤ q → A q := fun q h => by rw [← hAe]; exact Or.inr h
  have hS : va_S A s.heap s.heap [] := va_S.rf
  have hl := lv_entry ([.ref h, .ref h2]) (n := 3) (Nat.le_of_ble_eq_true rfl)
  rw [lg_entry_eq]
  generalize (lg_sl ([.ref h, .ref h2]) ++ List.replicate (3 - (lg_sl ([.ref h, .ref h2])).length) Slot.unset).toArray = ls at hl ⊢
  have hl : lv_has ls 3 [(0, .ref h), (1, .ref h2)] := hl
  have hP : va_P D vwCl [(h, .inr (4, [.ref a, .int n])), (h2, .inr (4, [.ref a2, .int 0]))] s.heap := hP
  refine lv_aload_n hx hb dX4_copyFrom_0 rfl (lv_at hl 0 rfl) ?_
  have ct := k_cut_of (wc := [(h, .inr (4, [.ref a, .int n]))]) (wr := [(h2, .inr (4, [.ref a2, .int 0]))]) (tc := []) hG hS hA hK hP hD [0] [1] [] rfl rfl (by decide) (by decide) (by decide) rfl
  refine k_endv (As := [.ref h]) ct (k_runV (As := []) (rest := []) S0 Lv_X4_23 rfl (ci := 4) (q0 := 0) rfl rfl ct (c_Row_clear l D h a n s.heap.size) hl.1 rfl (Nat.le_of_ble_eq_true rfl) rfl dX4_copyFrom_1 ⟨⟨Nat.le_of_ble_eq_true rfl, Nat.le_of_ble_eq_true rfl⟩, Nat.le_of_ble_eq_true rfl, Nat.le_of_ble_eq_true rfl⟩) rfl rfl (fun _ _ H locs hw_2 hP hD hK hS => ?_)
  have hK : va_K D vwCl [] s := hK
  have hP : va_P D vwCl [(h2, .inr (4, [.ref a2, .int 0])), (h, .inr (4, [.ref a, .int 0]))] H := hP
  have hD : va_D A [(h2, .inr (4, [.ref a2, .int 0])), (h, .inr (4, [.ref a, .int 0]))] := hD
  refine lv_iconst (v := 0) hx hb dX4_copyFrom_4 (by decide) ?_
  refine lv_istore_n (lv' := [(2, .int 0), (0, .ref h), (1, .ref h2)]) hx hb dX4_copyFrom_5 rfl hl (by decide) rfl (fun ls hl => ?_)
  refine lv_iload_n hx hb dX4_copyFrom_6 rfl (lv_at hl 0 rfl) ?_
  refine lv_aload_n hx hb dX4_copyFrom_7 rfl (lv_at hl 2 rfl) ?_
  refine va_get (D := D) (ci := 4) (v := .int 0) (C := RX4) (T := TX4) (N := 2) hx hb ht inA_X4 hown hK hP 0 rfl rfl 1 (by decide) (ht _ lf_X4_19) (fun _ h9 => h9) rfl dX4_copyFrom_8 ?_
  refine lv_icmp_ge (tgt := 29) hx hb dX4_copyFrom_11 (by decide) (fun _ => ?_) (fun c9 => absurd (by decide) c9)
  have hP9 : va_P D vwCl [(h, .inr (4, [.ref a, .int 0])), (h2, .inr (4, [.ref a2, .int 0]))] H := hP.sub [1, 0] rfl
  have hD9 : va_D A [(h, .inr (4, [.ref a, .int 0])), (h2, .inr (4, [.ref a2, .int 0]))] := hD.sub [1, 0] (by decide) rfl
  have hK9 : va_K D vwCl [] s := hK.sub [] rfl
  exact W.vret hx hb hr (fun t ht9 hW9 => ⟨⟨(), rfl, by first | rfl | trivial | (simp only [if_true, if_false, reduceIte, and_self]; done) | simp_all, ⟨by rw [ht9]; exact hP9, va_K.moved hW9.alike hK9, hD9⟩⟩, hS.F ht9⟩) hS.2.2 dX4_copyFrom_29
